section
-- ===== PART A: goes FIRST, ahead of the names: the tables' words, and 'selects' of the private methods out of them =====
/-- a private method of a class that the tables say can be made, by its rows of tables_1 -/
def lw_okq (q : MethodName × Nat) : Prop := (q.1.cls ≠ "java/lang/invoke/MethodHandle" ∧ q.1.cls ≠ "java/lang/invoke/VarHandle") ∧ Cond.instantiable q.1.cls q.2 ∈ tables_1 ∧ Cond.privateMethod q.1 ∈ tables_1 ∧ Cond.instanceMethod q.1 ∈ tables_1
theorem lw_p0 : lw_okq (⟨"FurPosts", "areTwoPosts", "(II)Z"⟩, 14) := ⟨⟨by decide +kernel, by decide +kernel⟩, List.mem_of_getElem? (i := 13) (by decide +kernel), List.mem_of_getElem? (i := 113) (by decide +kernel), List.mem_of_getElem? (i := 114) (by decide +kernel)⟩
theorem lw_p1 : lw_okq (⟨"FurPosts", "postAt", "(I)LFurPosts$Post;"⟩, 14) := ⟨⟨by decide +kernel, by decide +kernel⟩, List.mem_of_getElem? (i := 13) (by decide +kernel), List.mem_of_getElem? (i := 117) (by decide +kernel), List.mem_of_getElem? (i := 118) (by decide +kernel)⟩
theorem lw_p2 : lw_okq (⟨"FurPosts", "shortenDistances", "(II)V"⟩, 14) := ⟨⟨by decide +kernel, by decide +kernel⟩, List.mem_of_getElem? (i := 13) (by decide +kernel), List.mem_of_getElem? (i := 151) (by decide +kernel), List.mem_of_getElem? (i := 152) (by decide +kernel)⟩
theorem lw_p3 : lw_okq (⟨"FurPosts", "wayAt", "(I)LFurPosts$Way;"⟩, 14) := ⟨⟨by decide +kernel, by decide +kernel⟩, List.mem_of_getElem? (i := 13) (by decide +kernel), List.mem_of_getElem? (i := 178) (by decide +kernel), List.mem_of_getElem? (i := 179) (by decide +kernel)⟩
theorem lw_p4 : lw_okq (⟨"FurPosts", "canLoad", "(LFurPosts$Post;LFurPosts$Way;)Z"⟩, 14) := ⟨⟨by decide +kernel, by decide +kernel⟩, List.mem_of_getElem? (i := 13) (by decide +kernel), List.mem_of_getElem? (i := 191) (by decide +kernel), List.mem_of_getElem? (i := 192) (by decide +kernel)⟩
theorem lw_p5 : lw_okq (⟨"FurPosts", "takeLetters", "(ILFurPosts$Canoe;)I"⟩, 14) := ⟨⟨by decide +kernel, by decide +kernel⟩, List.mem_of_getElem? (i := 13) (by decide +kernel), List.mem_of_getElem? (i := 257) (by decide +kernel), List.mem_of_getElem? (i := 258) (by decide +kernel)⟩
theorem lw_p6 : lw_okq (⟨"FurPosts", "letterAt", "(I)LFurPosts$Letter;"⟩, 14) := ⟨⟨by decide +kernel, by decide +kernel⟩, List.mem_of_getElem? (i := 13) (by decide +kernel), List.mem_of_getElem? (i := 261) (by decide +kernel), List.mem_of_getElem? (i := 262) (by decide +kernel)⟩
theorem lw_p7 : lw_okq (⟨"FurPosts", "canoeAt", "(I)LFurPosts$Canoe;"⟩, 14) := ⟨⟨by decide +kernel, by decide +kernel⟩, List.mem_of_getElem? (i := 13) (by decide +kernel), List.mem_of_getElem? (i := 270) (by decide +kernel), List.mem_of_getElem? (i := 271) (by decide +kernel)⟩
theorem lw_p8 : lw_okq (⟨"FurPosts", "loseLetters", "(I)V"⟩, 14) := ⟨⟨by decide +kernel, by decide +kernel⟩, List.mem_of_getElem? (i := 13) (by decide +kernel), List.mem_of_getElem? (i := 274) (by decide +kernel), List.mem_of_getElem? (i := 275) (by decide +kernel)⟩
theorem lw_p9 : lw_okq (⟨"FurPosts", "moveCanoe", "(I)V"⟩, 14) := ⟨⟨by decide +kernel, by decide +kernel⟩, List.mem_of_getElem? (i := 13) (by decide +kernel), List.mem_of_getElem? (i := 287) (by decide +kernel), List.mem_of_getElem? (i := 288) (by decide +kernel)⟩
theorem lw_p10 : lw_okq (⟨"FurPosts", "landCanoe", "(LFurPosts$Canoe;LFurPosts$Post;)V"⟩, 14) := ⟨⟨by decide +kernel, by decide +kernel⟩, List.mem_of_getElem? (i := 13) (by decide +kernel), List.mem_of_getElem? (i := 291) (by decide +kernel), List.mem_of_getElem? (i := 292) (by decide +kernel)⟩
theorem lw_p11 : lw_okq (⟨"FurPosts", "landLetters", "(IILFurPosts$Post;)V"⟩, 14) := ⟨⟨by decide +kernel, by decide +kernel⟩, List.mem_of_getElem? (i := 13) (by decide +kernel), List.mem_of_getElem? (i := 295) (by decide +kernel), List.mem_of_getElem? (i := 296) (by decide +kernel)⟩
theorem lw_p12 : lw_okq (⟨"FurPosts", "canWrite", "(II)Z"⟩, 14) := ⟨⟨by decide +kernel, by decide +kernel⟩, List.mem_of_getElem? (i := 13) (by decide +kernel), List.mem_of_getElem? (i := 348) (by decide +kernel), List.mem_of_getElem? (i := 349) (by decide +kernel)⟩
theorem lw_p13 : lw_okq (⟨"FurPosts", "putInBag", "(LFurPosts$Letter;)I"⟩, 14) := ⟨⟨by decide +kernel, by decide +kernel⟩, List.mem_of_getElem? (i := 13) (by decide +kernel), List.mem_of_getElem? (i := 385) (by decide +kernel), List.mem_of_getElem? (i := 386) (by decide +kernel)⟩
theorem lw_p14 : lw_okq (⟨"FurPosts", "areWantsRight", "(I)Z"⟩, 14) := ⟨⟨by decide +kernel, by decide +kernel⟩, List.mem_of_getElem? (i := 13) (by decide +kernel), List.mem_of_getElem? (i := 453) (by decide +kernel), List.mem_of_getElem? (i := 454) (by decide +kernel)⟩
theorem lw_p15 : lw_okq (⟨"FurPosts", "countBag", "(I)I"⟩, 14) := ⟨⟨by decide +kernel, by decide +kernel⟩, List.mem_of_getElem? (i := 13) (by decide +kernel), List.mem_of_getElem? (i := 478) (by decide +kernel), List.mem_of_getElem? (i := 479) (by decide +kernel)⟩
def lw_privs_1 : List (MethodName × Nat) := [(⟨"FurPosts", "areTwoPosts", "(II)Z"⟩, 14), (⟨"FurPosts", "postAt", "(I)LFurPosts$Post;"⟩, 14), (⟨"FurPosts", "shortenDistances", "(II)V"⟩, 14), (⟨"FurPosts", "wayAt", "(I)LFurPosts$Way;"⟩, 14), (⟨"FurPosts", "canLoad", "(LFurPosts$Post;LFurPosts$Way;)Z"⟩, 14), (⟨"FurPosts", "takeLetters", "(ILFurPosts$Canoe;)I"⟩, 14), (⟨"FurPosts", "letterAt", "(I)LFurPosts$Letter;"⟩, 14), (⟨"FurPosts", "canoeAt", "(I)LFurPosts$Canoe;"⟩, 14), (⟨"FurPosts", "loseLetters", "(I)V"⟩, 14), (⟨"FurPosts", "moveCanoe", "(I)V"⟩, 14), (⟨"FurPosts", "landCanoe", "(LFurPosts$Canoe;LFurPosts$Post;)V"⟩, 14), (⟨"FurPosts", "landLetters", "(IILFurPosts$Post;)V"⟩, 14), (⟨"FurPosts", "canWrite", "(II)Z"⟩, 14), (⟨"FurPosts", "putInBag", "(LFurPosts$Letter;)I"⟩, 14), (⟨"FurPosts", "areWantsRight", "(I)Z"⟩, 14), (⟨"FurPosts", "countBag", "(I)I"⟩, 14)]
theorem lw_r1 : ∀ q ∈ lw_privs_1, lw_okq q := List.forall_mem_cons.mpr ⟨lw_p0, List.forall_mem_cons.mpr ⟨lw_p1, List.forall_mem_cons.mpr ⟨lw_p2, List.forall_mem_cons.mpr ⟨lw_p3, List.forall_mem_cons.mpr ⟨lw_p4, List.forall_mem_cons.mpr ⟨lw_p5, List.forall_mem_cons.mpr ⟨lw_p6, List.forall_mem_cons.mpr ⟨lw_p7, List.forall_mem_cons.mpr ⟨lw_p8, List.forall_mem_cons.mpr ⟨lw_p9, List.forall_mem_cons.mpr ⟨lw_p10, List.forall_mem_cons.mpr ⟨lw_p11, List.forall_mem_cons.mpr ⟨lw_p12, List.forall_mem_cons.mpr ⟨lw_p13, List.forall_mem_cons.mpr ⟨lw_p14, List.forall_mem_cons.mpr ⟨lw_p15, fun _ h => absurd h List.not_mem_nil⟩⟩⟩⟩⟩⟩⟩⟩⟩⟩⟩⟩⟩⟩⟩⟩
theorem lw_p16 : lw_okq (⟨"FurPosts", "countOfAll", "(I)I"⟩, 14) := ⟨⟨by decide +kernel, by decide +kernel⟩, List.mem_of_getElem? (i := 13) (by decide +kernel), List.mem_of_getElem? (i := 490) (by decide +kernel), List.mem_of_getElem? (i := 491) (by decide +kernel)⟩
theorem lw_p17 : lw_okq (⟨"FurPostsModel", "isPost", "(I)Z"⟩, 37) := ⟨⟨by decide +kernel, by decide +kernel⟩, List.mem_of_getElem? (i := 494) (by decide +kernel), List.mem_of_getElem? (i := 625) (by decide +kernel), List.mem_of_getElem? (i := 626) (by decide +kernel)⟩
theorem lw_p18 : lw_okq (⟨"FurPostsModel", "between", "(II)I"⟩, 37) := ⟨⟨by decide +kernel, by decide +kernel⟩, List.mem_of_getElem? (i := 494) (by decide +kernel), List.mem_of_getElem? (i := 629) (by decide +kernel), List.mem_of_getElem? (i := 630) (by decide +kernel)⟩
theorem lw_p19 : lw_okq (⟨"FurPostsModel", "stored", "(II)I"⟩, 37) := ⟨⟨by decide +kernel, by decide +kernel⟩, List.mem_of_getElem? (i := 494) (by decide +kernel), List.mem_of_getElem? (i := 640) (by decide +kernel), List.mem_of_getElem? (i := 641) (by decide +kernel)⟩
theorem lw_p20 : lw_okq (⟨"FurPostsModel", "sums", "(III)V"⟩, 37) := ⟨⟨by decide +kernel, by decide +kernel⟩, List.mem_of_getElem? (i := 494) (by decide +kernel), List.mem_of_getElem? (i := 645) (by decide +kernel), List.mem_of_getElem? (i := 646) (by decide +kernel)⟩
theorem lw_p21 : lw_okq (⟨"FurPostsModel", "isOpen", "(II)Z"⟩, 37) := ⟨⟨by decide +kernel, by decide +kernel⟩, List.mem_of_getElem? (i := 494) (by decide +kernel), List.mem_of_getElem? (i := 657) (by decide +kernel), List.mem_of_getElem? (i := 658) (by decide +kernel)⟩
theorem lw_p22 : lw_okq (⟨"FurPostsModel", "isAway", "(I)Z"⟩, 37) := ⟨⟨by decide +kernel, by decide +kernel⟩, List.mem_of_getElem? (i := 494) (by decide +kernel), List.mem_of_getElem? (i := 669) (by decide +kernel), List.mem_of_getElem? (i := 670) (by decide +kernel)⟩
theorem lw_p23 : lw_okq (⟨"FurPostsModel", "isCanoe", "(I)Z"⟩, 37) := ⟨⟨by decide +kernel, by decide +kernel⟩, List.mem_of_getElem? (i := 494) (by decide +kernel), List.mem_of_getElem? (i := 673) (by decide +kernel), List.mem_of_getElem? (i := 674) (by decide +kernel)⟩
theorem lw_p24 : lw_okq (⟨"FurPostsModel", "comes", "(I)V"⟩, 37) := ⟨⟨by decide +kernel, by decide +kernel⟩, List.mem_of_getElem? (i := 494) (by decide +kernel), List.mem_of_getElem? (i := 685) (by decide +kernel), List.mem_of_getElem? (i := 686) (by decide +kernel)⟩
theorem lw_p25 : lw_okq (⟨"FurPostsModel", "reads", "(I)V"⟩, 37) := ⟨⟨by decide +kernel, by decide +kernel⟩, List.mem_of_getElem? (i := 494) (by decide +kernel), List.mem_of_getElem? (i := 689) (by decide +kernel), List.mem_of_getElem? (i := 690) (by decide +kernel)⟩
theorem lw_p26 : lw_okq (⟨"FurPostsModel", "isDeal", "(IIII)Z"⟩, 37) := ⟨⟨by decide +kernel, by decide +kernel⟩, List.mem_of_getElem? (i := 494) (by decide +kernel), List.mem_of_getElem? (i := 697) (by decide +kernel), List.mem_of_getElem? (i := 698) (by decide +kernel)⟩
theorem lw_p27 : lw_okq (⟨"FurPostsModel", "canWrite", "(II)Z"⟩, 37) := ⟨⟨by decide +kernel, by decide +kernel⟩, List.mem_of_getElem? (i := 494) (by decide +kernel), List.mem_of_getElem? (i := 722) (by decide +kernel), List.mem_of_getElem? (i := 723) (by decide +kernel)⟩
theorem lw_p28 : lw_okq (⟨"FurPostsModel", "writes", "(IIIII)I"⟩, 37) := ⟨⟨by decide +kernel, by decide +kernel⟩, List.mem_of_getElem? (i := 494) (by decide +kernel), List.mem_of_getElem? (i := 726) (by decide +kernel), List.mem_of_getElem? (i := 727) (by decide +kernel)⟩
def lw_privs_2 : List (MethodName × Nat) := [(⟨"FurPosts", "countOfAll", "(I)I"⟩, 14), (⟨"FurPostsModel", "isPost", "(I)Z"⟩, 37), (⟨"FurPostsModel", "between", "(II)I"⟩, 37), (⟨"FurPostsModel", "stored", "(II)I"⟩, 37), (⟨"FurPostsModel", "sums", "(III)V"⟩, 37), (⟨"FurPostsModel", "isOpen", "(II)Z"⟩, 37), (⟨"FurPostsModel", "isAway", "(I)Z"⟩, 37), (⟨"FurPostsModel", "isCanoe", "(I)Z"⟩, 37), (⟨"FurPostsModel", "comes", "(I)V"⟩, 37), (⟨"FurPostsModel", "reads", "(I)V"⟩, 37), (⟨"FurPostsModel", "isDeal", "(IIII)Z"⟩, 37), (⟨"FurPostsModel", "canWrite", "(II)Z"⟩, 37), (⟨"FurPostsModel", "writes", "(IIIII)I"⟩, 37)]
theorem lw_r2 : ∀ q ∈ lw_privs_2, lw_okq q := List.forall_mem_cons.mpr ⟨lw_p16, List.forall_mem_cons.mpr ⟨lw_p17, List.forall_mem_cons.mpr ⟨lw_p18, List.forall_mem_cons.mpr ⟨lw_p19, List.forall_mem_cons.mpr ⟨lw_p20, List.forall_mem_cons.mpr ⟨lw_p21, List.forall_mem_cons.mpr ⟨lw_p22, List.forall_mem_cons.mpr ⟨lw_p23, List.forall_mem_cons.mpr ⟨lw_p24, List.forall_mem_cons.mpr ⟨lw_p25, List.forall_mem_cons.mpr ⟨lw_p26, List.forall_mem_cons.mpr ⟨lw_p27, List.forall_mem_cons.mpr ⟨lw_p28, fun _ h => absurd h List.not_mem_nil⟩⟩⟩⟩⟩⟩⟩⟩⟩⟩⟩⟩⟩
def lw_privs : List (MethodName × Nat) := lw_privs_1 ++ (lw_privs_2)
def lw_tbl : List Cond := k2_sels lw_privs ++ tables_1
theorem lw_privs_ok : ∀ q ∈ lw_privs, lw_okq q := by
  show ∀ q ∈ lw_privs_1 ++ (lw_privs_2), lw_okq q
  exact List.forall_mem_append.mpr ⟨lw_r1, lw_r2⟩
-- ===== end of PART A; then your names; then what follows =====
end
section
/-- an array of arrays can be made (the printed names speak of it; no block of the kit has it) -/
def va_AOA (ty : FieldType) (U : State) : Prop := (Cond.arrayOver (.array ty)).before #[] U = true
theorem va_AOA.use {ty : FieldType} {A : Array Value} {U : State} (h : va_AOA ty U) : (Cond.arrayOver (.array ty)).before A U = true := h
theorem va_AOA.of {ty : FieldType} {A : Array Value} {U : State} (h : (Cond.arrayOver (.array ty)).before A U = true) : va_AOA ty U := h
/-! ===== BEGIN words of one list among another's, by their places ===== -/
theorem goodIn_r {big : List Cond} (ws : List Cond) (ps : List Nat) (hp : ws = ps.filterMap (fun i => big[i]?)) (h : ws.all goodWord = true) : GoodIn big ws := by
  intro w hw
  have h1 := List.all_eq_true.mp h w hw
  rw [hp] at hw
  obtain ⟨i, -, hi⟩ := List.mem_filterMap.mp hw
  have hm : w ∈ big := by first | exact List.mem_of_getElem? hi | exact List.getElem?_mem hi
  exact ⟨hm, good_of_word h1⟩
theorem goodIn_app {big a b : List Cond} (ha : GoodIn big a) (hb : GoodIn big b) : GoodIn big (a ++ b) := fun w h => (List.mem_append.mp h).elim (ha w) (hb w)
theorem goodIn_ca {big a b : List Cond} {c : Cond} (ha : GoodIn big (c :: a)) (hb : GoodIn big b) : GoodIn big (c :: (a ++ b)) := fun w h => (List.mem_cons.mp h).elim (fun e => ha w (List.mem_cons.mpr (Or.inl e))) (fun h => (List.mem_append.mp h).elim (fun h => ha w (List.mem_cons.mpr (Or.inr h))) (hb w))
theorem goodIn_sub {big ws : List Cond} (hm : ∀ w ∈ ws, w ∈ big) (h : ws.all goodWord = true) : GoodIn big ws := fun w hw => ⟨hm w hw, good_of_word (List.all_eq_true.mp h w hw)⟩
/-! ===== END ===== -/

/-! ===== BEGIN new T[n][m]: the outer array a place, the inner ones among the pooled ===== -/
/-- f, but v at every address of l -/
def vr_up {α : Type} (f : Nat → α) (l : List Nat) (v : α) : Nat → α := fun a => if a ∈ l then v else f a
theorem vr_up_in {α : Type} {f : Nat → α} {l : List Nat} {v : α} {a : Nat} (h : a ∈ l) : vr_up f l v a = v := if_pos h
theorem vr_up_ne {α : Type} {f : Nat → α} {l : List Nat} {v : α} {a : Nat} (h : a ∉ l) : vr_up f l v a = f a := if_neg h
theorem vr_rows {L l : List Nat} {f : Nat → va_E} {e : va_E} (h : ∀ a, a ∈ l → a ∉ L) : va_pl L f ++ l.map (fun a => (a, e)) = va_pl (L ++ l) (vr_up f l e) := by
  unfold va_pl
  rw [List.map_append]
  congr 1
  · apply List.map_congr_left
    intro a ha
    rw [vr_up_ne (fun q => h a q ha)]
  · apply List.map_congr_left
    intro a ha
    rw [vr_up_in ha]
theorem vr_lay {X rows : va_W} {x : Nat × va_E} {pl : va_W} {D : va_G} {cl : List vw_C} {H : Heap} (hP : va_P D cl (((X ++ pl) ++ [x]) ++ rows) H) : va_P D cl ((X ++ [x]) ++ (pl ++ rows)) H := by
  rw [List.append_assoc (X ++ pl)] at hP
  have h := va_P.swap hP
  rw [← List.append_assoc X] at h
  have h2 := va_P.swap h
  rw [List.append_assoc (X ++ [x])] at h2
  exact h2
theorem vr_layD {X rows : va_W} {x : Nat × va_E} {pl : va_W} {A : Nat → Prop} (hD : va_D A (((X ++ pl) ++ [x]) ++ rows)) : va_D A ((X ++ [x]) ++ (pl ++ rows)) := by
  rw [List.append_assoc (X ++ pl)] at hD
  have h := va_D.swap hD
  rw [← List.append_assoc X] at h
  have h2 := va_D.swap h
  rw [List.append_assoc (X ++ [x])] at h2
  exact h2
theorem vr_outer (c : ClassId) (N h0 : Nat) : ∀ i : Nat, Jvm.Free.Multi.outerC c N h0 i = arrV c N (fun j => va_rf (if j < i then some (h0 + 1 + j) else none))
  | 0 => by
    show ({ cls := c, slots := Array.replicate N .null, vm := .none } : Cell) = _
    rw [arrV_new]
    refine congrArg (arrV c N) (funext fun j => ?_)
    simp [va_rf]
  | i + 1 => by
    show (Jvm.Free.Multi.outerC c N h0 i).setSlot i (.ref (h0 + 1 + i)) = _
    rw [vr_outer c N h0 i, arrV_store]
    refine congrArg (arrV c N) (funext fun j => ?_)
    by_cases e : j = i
    · subst e
      simp [updV, va_rf]
    · by_cases h : j < i
      · simp [updV, e, h, Nat.lt_succ_of_lt h]
      · simp [updV, e, h, show ¬ j < i + 1 by omega]
section VGM
variable {p : Program} {l : Launch} {e : Env} {R : Room} {s : State} {m : MethodId} {args : Array Value} {below : List Frame} {meth : Method} {c : Code} {H : Heap} {locs : List Loc} {cells slots : Nat} {Q : State → Prop}
variable {cc : ByteArray} {pc : Nat} {ls : Array Slot} {rest : List Value} {D : va_G} {cl : List vw_C} {A : Nat → Prop} {a : Nat} {tys : List (ClassId × FieldType)} {ws : va_W} {H0 : Heap}
theorem va_mna {X : va_W} {L : List Nat} {f : Nat → va_E} {cc : ByteArray} (hexec : p.tables.exec = Jvm.exec) (hb : c.code = cc) {own : String} {index : Nat} {ty : FieldType} {cy : ClassId} (hown : s.vm.findClass own = some m.cls) (hclink : (Cond.classLink own index ("[" ++ (FieldType.array ty).toString)).before args s = true) (hover : va_AOA ty s) (harr : (Cond.arrayClass ty).before args s = true) (hcy : s.vm.findClass (FieldType.array ty).toString = some cy)
    (hK : va_K D cl tys s) (hP : va_P D cl (X ++ va_pl L f) H) (hD : va_D A (X ++ va_pl L f)) (hS : va_S A H0 H locs) (hA : ∀ q, H0.size ≤ q → A q) {n k : Int32} {N' K' : Nat} {z : vp_A} (hn : ¬ n < 0) (hk : ¬ k < 0) (hN : n.toNatClampNeg = N') (hM : k.toNatClampNeg = K')
    (hb1 : N' * 4 ≤ 536870912) (hb2 : K' * componentBytes ty ≤ 536870912) (hb3 : K' ≤ 536870912) (hdf : fits ty (defaultValue ty) = true) (hdd : (defaultValue ty).isDefault = true) (hcells : cells + (1 + N') ≤ R.cells) (hslots : slots + (N' + N' * K') ≤ R.slots) (hz : ∀ c : ClassId, Jvm.Free.Multi.innerC c K' (defaultValue ty) = vp_cell c z) (hdg : decode cc pc = .ok (.multianewarray index 2, 4))
    (kk : ∀ (q : Nat) (r : Nat → Nat) (cA : ClassId) (H1 : Heap), (∀ i j : Nat, i < N' → j < N' → r i = r j → i = j) → (∀ i : Nat, i < N' → r i ∉ L) → va_K D cl (tys ++ [(cA, .array ty)]) s →
      va_P D cl ((X ++ [(q, .inl (cA, N', .inr (.inr (.inr (.inr (fun i => if i < N' then some (r i) else none))))))]) ++ va_pl (L ++ (List.range N').map r) (vr_up f ((List.range N').map r) (.inl (cy, z)))) H1 → va_D A ((X ++ [(q, .inl (cA, N', .inr (.inr (.inr (.inr (fun i => if i < N' then some (r i) else none))))))]) ++ va_pl (L ++ (List.range N').map r) (vr_up f ((List.range N').map r) (.inl (cy, z)))) → va_S A H0 H1 locs →
      W p l e R s m args below meth c H1 locs (cells + 1 + N') (slots + N' + N' * K') Q (F0 m (pc + 4) ls (.ref q :: rest))) : W p l e R s m args below meth c H locs cells slots Q (F0 m pc ls (.int k :: .int n :: rest)) := by
  subst hN
  subst hM
  intro T hT Xs
  obtain ⟨vm₁, cA, comp, -, fA, fC, hO, -, X', step⟩ := Xs.multianewarray2F hexec hown hclink (va_AOA.use hover) harr (g := F0 m pc ls (.int k :: .int n :: rest)) rfl (by rw [hb]; exact hdg) rfl hn hk hb1 hb2 hb3 hdf hdd hcells hslots
  have ec : some cy = some comp := hcy.symm.trans fC
  cases ec
  generalize hF : Jvm.Free.Multi.fill (T.setVm vm₁) cA cy n.toNatClampNeg k.toNatClampNeg (defaultValue ty) n.toNatClampNeg = F at X' step
  have hTh : (T.setVm vm₁).heap = H := hT
  obtain ⟨f1, f2, -, -⟩ := Jvm.Free.Multi.fill_facts (T.setVm vm₁) cA cy n.toNatClampNeg k.toNatClampNeg (defaultValue ty) n.toNatClampNeg
  rw [hF, hTh] at f1 f2
  have hold : ∀ x : Nat, x < H.size → F.heap[x]? = H[x]? := fun x hx => by
    have := Jvm.Free.Multi.fill_old (T.setVm vm₁) cA cy n.toNatClampNeg k.toNatClampNeg (defaultValue ty) (a := x) (by rw [hTh]; exact hx) n.toNatClampNeg
    rw [hF, hTh] at this
    exact this
  have hrow : ∀ j : Nat, j < n.toNatClampNeg → F.heap[H.size + 1 + j]? = some (vp_cell cy z) := fun j hj => by
    have := Jvm.Free.Multi.fill_inner (T.setVm vm₁) cA cy n.toNatClampNeg k.toNatClampNeg (defaultValue ty) n.toNatClampNeg j hj
    rw [hF, hTh, hz] at this
    exact this
  have hout : Jvm.Free.Multi.outerC cA n.toNatClampNeg H.size n.toNatClampNeg = vp_cell cA (n.toNatClampNeg, .inr (.inr (.inr (.inr (fun i => if i < n.toNatClampNeg then some (H.size + 1 + i) else none))))) := by
    rw [vp_cell_q]
    exact vr_outer cA n.toNatClampNeg H.size n.toNatClampNeg
  rw [hout] at f2
  have hlt : ∀ a, a ∈ L → a < H.size := fun a ha => by
    obtain ⟨k9, hk9⟩ := va_pl_get (X := X) (f := f) ha
    exact (hP k9 _ hk9).lt
  have hnl : ∀ i : Nat, i < n.toNatClampNeg → H.size + 1 + i ∉ L := fun i _ h => by
    have := hlt _ h
    omega
  have hnm : ∀ a, a ∈ (List.range n.toNatClampNeg).map (fun i => H.size + 1 + i) → a ∉ L := fun a ha h => by
    obtain ⟨i, -, rfl⟩ := List.mem_map.mp ha
    have := hlt _ h
    omega
  have hP0 : va_P D cl (X ++ va_pl L f) F.heap := hP.kept (fun k9 x hx => hold x.1 ((hP k9 x hx).lt))
  have hP1 : va_P D cl ((X ++ va_pl L f) ++ [(H.size, .inl (cA, n.toNatClampNeg, .inr (.inr (.inr (.inr (fun i => if i < n.toNatClampNeg then some (H.size + 1 + i) else none))))))]) F.heap := hP0.app (fun k9 x hx => by
    have h0 : k9 < 1 := (List.getElem?_eq_some_iff.mp hx).1
    rw [show k9 = 0 by omega] at hx
    cases hx
    exact f2)
  have hP2 : va_P D cl (((X ++ va_pl L f) ++ [(H.size, .inl (cA, n.toNatClampNeg, .inr (.inr (.inr (.inr (fun i => if i < n.toNatClampNeg then some (H.size + 1 + i) else none))))))]) ++ ((List.range n.toNatClampNeg).map (fun i => H.size + 1 + i)).map (fun a => (a, .inl (cy, z)))) F.heap := hP1.app (fun k9 x hx => by
    obtain ⟨a, ha, rfl⟩ := List.mem_map.mp (List.mem_of_getElem? hx)
    obtain ⟨i, hi, rfl⟩ := List.mem_map.mp ha
    exact hrow i (List.mem_range.mp hi))
  have hD2 : va_D A (((X ++ va_pl L f) ++ [(H.size, .inl (cA, n.toNatClampNeg, .inr (.inr (.inr (.inr (fun i => if i < n.toNatClampNeg then some (H.size + 1 + i) else none))))))]) ++ ((List.range n.toNatClampNeg).map (fun i => H.size + 1 + i)).map (fun a => (a, .inl (cy, z)))) := by
    have hD1 := hD.push (e := .inl (cA, n.toNatClampNeg, .inr (.inr (.inr (.inr (fun i => if i < n.toNatClampNeg then some (H.size + 1 + i) else none)))))) hP rfl (hA _ hS.1)
    generalize hW1 : (X ++ va_pl L f) ++ [(H.size, .inl (cA, n.toNatClampNeg, .inr (.inr (.inr (.inr (fun i => if i < n.toNatClampNeg then some (H.size + 1 + i) else none))))))] = W1 at hD1 hP1 ⊢
    have hle : ∀ (k9 : Nat) (x : Nat × va_E), W1[k9]? = some x → x.1 ≤ H.size := fun k9 x hx => by
      rw [← hW1] at hx
      by_cases hl : k9 < (X ++ va_pl L f).length
      · rw [List.getElem?_append_left hl] at hx
        exact Nat.le_of_lt ((hP k9 x hx).lt)
      · rw [List.getElem?_append_right (by omega)] at hx
        have h0 : k9 - (X ++ va_pl L f).length < 1 := (List.getElem?_eq_some_iff.mp hx).1
        rw [show k9 - (X ++ va_pl L f).length = 0 by omega] at hx
        cases hx
        exact Nat.le_refl _
    have hr : ∀ (k9 : Nat) (x : Nat × va_E), (((List.range n.toNatClampNeg).map (fun i => H.size + 1 + i)).map (fun a => ((a, .inl (cy, z)) : Nat × va_E)))[k9]? = some x → x.1 = H.size + 1 + k9 := fun k9 x hx => by
      rw [List.getElem?_map, List.getElem?_map] at hx
      by_cases h9 : k9 < n.toNatClampNeg
      · rw [List.getElem?_range h9] at hx
        cases hx
        rfl
      · have hn0 : (List.range n.toNatClampNeg)[k9]? = none := List.getElem?_eq_none (by rw [List.length_range]; omega)
        rw [hn0] at hx
        cases hx
    refine ⟨fun i j x y hi hj hxy => ?_, fun k9 x hx => ?_⟩
    · by_cases h1 : i < W1.length <;> by_cases h2 : j < W1.length
      · rw [List.getElem?_append_left h1] at hi
        rw [List.getElem?_append_left h2] at hj
        exact hD1.1 i j x y hi hj hxy
      · rw [List.getElem?_append_left h1] at hi
        rw [List.getElem?_append_right (by omega)] at hj
        have := hle _ _ hi
        have := hr _ _ hj
        omega
      · rw [List.getElem?_append_right (by omega)] at hi
        rw [List.getElem?_append_left h2] at hj
        have := hle _ _ hj
        have := hr _ _ hi
        omega
      · rw [List.getElem?_append_right (by omega)] at hi hj
        have := hr _ _ hi
        have := hr _ _ hj
        omega
    · by_cases h1 : k9 < W1.length
      · rw [List.getElem?_append_left h1] at hx
        exact hD1.2 k9 x hx
      · rw [List.getElem?_append_right (by omega)] at hx
        have := hr _ _ hx
        exact hA _ (by have := hS.1; omega)
  have hAr : ArrOfT s cA (.array ty) := fun N9 z9 => by
    obtain ⟨-, k9, hk9, cm9, hkk9⟩ := (hO 0 0 0).1
    exact ⟨(fun q hq => by cases hq), k9, hk9, cm9, hkk9⟩
  have hK2 : va_K D cl (tys ++ [(cA, .array ty)]) s := ⟨hK.1, fun k9 x hx => by
    by_cases hl : k9 < tys.length
    · rw [List.getElem?_append_left hl] at hx
      exact hK.2 k9 x hx
    · rw [List.getElem?_append_right (by omega)] at hx
      have h0 : k9 - tys.length < 1 := (List.getElem?_eq_some_iff.mp hx).1
      rw [show k9 - tys.length = 0 by omega] at hx
      cases hx
      exact ⟨hAr, fA⟩⟩
  obtain ⟨t, a1, b1⟩ := kk H.size (fun i => H.size + 1 + i) cA F.heap (fun i j _ _ h => by have h9 : H.size + 1 + i = H.size + 1 + j := h; omega) hnl hK2 (by rw [← vr_rows hnm]; exact vr_lay hP2) (by rw [← vr_rows hnm]; exact vr_layD hD2) ⟨by rw [f1]; have := hS.1; omega, fun x h1 h2 => (hold x (Nat.lt_of_lt_of_le h1 hS.1)).trans (hS.2.1 x h1 h2), hS.2.2⟩ F rfl X'
  refine ⟨t, step t ?_, b1⟩
  have e : T.heap.size = H.size := by rw [hT]
  rw [e]
  exact a1
end VGM
/-! ===== END ===== -/
end
section
/-! ===== BEGIN printed: names, fields, word lists, decode rows ===== -/
def RX0 : String := "FurPosts$Canoe"
def TX0 : u_T := fun k => match k with
  | 0 => ("FurPosts$Canoe", "from", "I", true)
  | 1 => ("FurPosts$Canoe", "to", "I", true)
  | 2 => ("FurPosts$Canoe", "way", "I", true)
  | 3 => ("FurPosts$Canoe", "daySent", "I", true)
  | 4 => ("FurPosts$Canoe", "waresSent", "[I", true)
  | 5 => ("FurPosts$Canoe", "wares", "[I", true)
  | 6 => ("FurPosts$Canoe", "lettersSent", "I", false)
  | 7 => ("FurPosts$Canoe", "daysToGo", "I", false)
  | 8 => ("FurPosts$Canoe", "dayCame", "I", false)
  | 9 => ("FurPosts$Canoe", "state", "I", false)
  | _ => ("FurPosts$Canoe", "spoilt", "Z", false)
def tyX0 : Nat → FieldType := fun k => match k with
  | 0 => .int
  | 1 => .int
  | 2 => .int
  | 3 => .int
  | 4 => .array .int
  | 5 => .array .int
  | 6 => .int
  | 7 => .int
  | 8 => .int
  | 9 => .int
  | _ => .boolean
abbrev wsX00 : List Cond := u_ws RX0 TX0 11
theorem nmX0 : ∀ a, a < 11 → ∀ b, b < 11 → a ≠ b → (TX0 a).2.1 ≠ (TX0 b).2.1 := by decide +kernel
theorem tyX0_ok : ∀ k, k < 11 → parseFieldDescriptor (TX0 k).2.2.1 = some (tyX0 k) := by decide +kernel
abbrev cX0_init : ByteArray := prog_2_method_1_code
def yX0_init : MethodName := ⟨RX0, "<init>", "(IIIII[I)V"⟩
abbrev cX0_isBetween : ByteArray := prog_2_method_2_code
def yX0_isBetween : MethodName := ⟨RX0, "isBetween", "(II)Z"⟩
abbrev cX0_partsBooks : ByteArray := prog_2_method_3_code
def yX0_partsBooks : MethodName := ⟨RX0, "partsBooks", "()Z"⟩
def RX1 : String := "FurPosts$Debt"
def TX1 : u_T := fun k => match k with
  | 0 => ("FurPosts$Letter", "from", "I", true)
  | 1 => ("FurPosts$Letter", "to", "I", true)
  | 2 => ("FurPosts$Letter", "bag", "I", false)
  | 3 => ("FurPosts$Letter", "carrier", "I", false)
  | 4 => ("FurPosts$Debt", "hunter", "I", true)
  | _ => ("FurPosts$Debt", "coins", "I", true)
def tyX1 : Nat → FieldType := fun k => match k with
  | 0 => .int
  | 1 => .int
  | 2 => .int
  | 3 => .int
  | 4 => .int
  | _ => .int
abbrev wsX10 : List Cond := u_ws RX1 TX1 6
theorem nmX1 : ∀ a, a < 6 → ∀ b, b < 6 → a ≠ b → (TX1 a).2.1 ≠ (TX1 b).2.1 := by decide +kernel
theorem tyX1_ok : ∀ k, k < 6 → parseFieldDescriptor (TX1 k).2.2.1 = some (tyX1 k) := by decide +kernel
abbrev cX1_init : ByteArray := prog_3_method_1_code
def yX1_init : MethodName := ⟨RX1, "<init>", "(IIII)V"⟩
abbrev cX1_readAt : ByteArray := prog_3_method_2_code
def yX1_readAt : MethodName := ⟨RX1, "readAt", "(LFurPosts$Post;)V"⟩
def RX2 : String := "FurPosts$Letter"
def TX2 : u_T := fun k => match k with
  | _ => ("", "", "", false)
def tyX2 : Nat → FieldType := fun k => match k with
  | _ => .int
abbrev wsX20 : List Cond := u_ws RX2 TX2 0
theorem nmX2 : ∀ a, a < 0 → ∀ b, b < 0 → a ≠ b → (TX2 a).2.1 ≠ (TX2 b).2.1 := by decide +kernel
theorem tyX2_ok : ∀ k, k < 0 → parseFieldDescriptor (TX2 k).2.2.1 = some (tyX2 k) := by decide +kernel
abbrev cX2_init : ByteArray := prog_4_method_1_code
def yX2_init : MethodName := ⟨RX2, "<init>", "(II)V"⟩
def RX3 : String := "FurPosts$Order"
def TX3 : u_T := fun k => match k with
  | 0 => ("FurPosts$Letter", "from", "I", true)
  | 1 => ("FurPosts$Letter", "to", "I", true)
  | 2 => ("FurPosts$Letter", "bag", "I", false)
  | 3 => ("FurPosts$Letter", "carrier", "I", false)
  | 4 => ("FurPosts$Order", "ware", "I", true)
  | _ => ("FurPosts$Order", "asked", "I", true)
def tyX3 : Nat → FieldType := fun k => match k with
  | 0 => .int
  | 1 => .int
  | 2 => .int
  | 3 => .int
  | 4 => .int
  | _ => .int
abbrev wsX30 : List Cond := u_ws RX3 TX3 6
theorem nmX3 : ∀ a, a < 6 → ∀ b, b < 6 → a ≠ b → (TX3 a).2.1 ≠ (TX3 b).2.1 := by decide +kernel
theorem tyX3_ok : ∀ k, k < 6 → parseFieldDescriptor (TX3 k).2.2.1 = some (tyX3 k) := by decide +kernel
abbrev cX3_init : ByteArray := prog_5_method_1_code
def yX3_init : MethodName := ⟨RX3, "<init>", "(IIII)V"⟩
abbrev cX3_readAt : ByteArray := prog_5_method_2_code
def yX3_readAt : MethodName := ⟨RX3, "readAt", "(LFurPosts$Post;)V"⟩
def RX4 : String := "FurPosts$Post"
def TX4 : u_T := fun k => match k with
  | 0 => ("FurPosts$Post", "stock", "[I", true)
  | 1 => ("FurPosts$Post", "prices", "[I", true)
  | 2 => ("FurPosts$Post", "owed", "[I", true)
  | _ => ("FurPosts$Post", "reports", "[LFurPosts$Report;", true)
def tyX4 : Nat → FieldType := fun k => match k with
  | 0 => .array .int
  | 1 => .array .int
  | 2 => .array .int
  | _ => .array (.object "FurPosts$Report")
abbrev wsX40 : List Cond := u_ws RX4 TX4 4
theorem nmX4 : ∀ a, a < 4 → ∀ b, b < 4 → a ≠ b → (TX4 a).2.1 ≠ (TX4 b).2.1 := by decide +kernel
theorem tyX4_ok : ∀ k, k < 4 → parseFieldDescriptor (TX4 k).2.2.1 = some (tyX4 k) := by decide +kernel
abbrev cX4_init : ByteArray := prog_6_method_1_code
def yX4_init : MethodName := ⟨RX4, "<init>", "()V"⟩
abbrev cX4_reportOf : ByteArray := prog_6_method_2_code
def yX4_reportOf : MethodName := ⟨RX4, "reportOf", "(I)LFurPosts$Report;"⟩
abbrev cX4_owedByAll : ByteArray := prog_6_method_3_code
def yX4_owedByAll : MethodName := ⟨RX4, "owedByAll", "()I"⟩
def RX5 : String := "FurPosts$Report"
def TX5 : u_T := fun k => match k with
  | 0 => ("FurPosts$Letter", "from", "I", true)
  | 1 => ("FurPosts$Letter", "to", "I", true)
  | 2 => ("FurPosts$Letter", "bag", "I", false)
  | 3 => ("FurPosts$Letter", "carrier", "I", false)
  | 4 => ("FurPosts$Report", "day", "I", true)
  | _ => ("FurPosts$Report", "stock", "[I", true)
def tyX5 : Nat → FieldType := fun k => match k with
  | 0 => .int
  | 1 => .int
  | 2 => .int
  | 3 => .int
  | 4 => .int
  | _ => .array .int
abbrev wsX50 : List Cond := u_ws RX5 TX5 6
theorem nmX5 : ∀ a, a < 6 → ∀ b, b < 6 → a ≠ b → (TX5 a).2.1 ≠ (TX5 b).2.1 := by decide +kernel
theorem tyX5_ok : ∀ k, k < 6 → parseFieldDescriptor (TX5 k).2.2.1 = some (tyX5 k) := by decide +kernel
abbrev cX5_init : ByteArray := prog_7_method_1_code
def yX5_init : MethodName := ⟨RX5, "<init>", "(III[I)V"⟩
abbrev cX5_readAt : ByteArray := prog_7_method_2_code
def yX5_readAt : MethodName := ⟨RX5, "readAt", "(LFurPosts$Post;)V"⟩
def RX6 : String := "FurPosts$Way"
def TX6 : u_T := fun k => match k with
  | 0 => ("FurPosts$Way", "a", "I", true)
  | 1 => ("FurPosts$Way", "b", "I", true)
  | 2 => ("FurPosts$Way", "days", "I", true)
  | 3 => ("FurPosts$Way", "firstOpen", "I", true)
  | 4 => ("FurPosts$Way", "lastOpen", "I", true)
  | _ => ("FurPosts$Way", "bears", "I", true)
def tyX6 : Nat → FieldType := fun k => match k with
  | 0 => .int
  | 1 => .int
  | 2 => .int
  | 3 => .int
  | 4 => .int
  | _ => .int
abbrev wsX60 : List Cond := u_ws RX6 TX6 6
theorem nmX6 : ∀ a, a < 6 → ∀ b, b < 6 → a ≠ b → (TX6 a).2.1 ≠ (TX6 b).2.1 := by decide +kernel
theorem tyX6_ok : ∀ k, k < 6 → parseFieldDescriptor (TX6 k).2.2.1 = some (tyX6 k) := by decide +kernel
abbrev cX6_init : ByteArray := prog_8_method_1_code
def yX6_init : MethodName := ⟨RX6, "<init>", "(IIIIII)V"⟩
abbrev cX6_startsAt : ByteArray := prog_8_method_2_code
def yX6_startsAt : MethodName := ⟨RX6, "startsAt", "(I)Z"⟩
abbrev cX6_otherEnd : ByteArray := prog_8_method_3_code
def yX6_otherEnd : MethodName := ⟨RX6, "otherEnd", "(I)I"⟩
abbrev cX6_isOpenOn : ByteArray := prog_8_method_4_code
def yX6_isOpenOn : MethodName := ⟨RX6, "isOpenOn", "(I)Z"⟩
def RX7 : String := "FurPosts"
def TX7 : u_T := fun k => match k with
  | 0 => ("FurPosts", "posts", "[LFurPosts$Post;", true)
  | 1 => ("FurPosts", "ways", "[LFurPosts$Way;", true)
  | 2 => ("FurPosts", "canoes", "[LFurPosts$Canoe;", true)
  | 3 => ("FurPosts", "letters", "[LFurPosts$Letter;", true)
  | 4 => ("FurPosts", "distances", "[[I", true)
  | 5 => ("FurPosts", "wants", "[[I", true)
  | 6 => ("FurPosts", "tallies", "[[I", true)
  | 7 => ("FurPosts", "loaded", "[I", true)
  | 8 => ("FurPosts", "now", "I", false)
  | 9 => ("FurPosts", "postCount", "I", false)
  | 10 => ("FurPosts", "wayCount", "I", false)
  | 11 => ("FurPosts", "canoeCount", "I", false)
  | 12 => ("FurPosts", "letterCount", "I", false)
  | _ => ("FurPosts", "debtsLost", "I", false)
def tyX7 : Nat → FieldType := fun k => match k with
  | 0 => .array (.object "FurPosts$Post")
  | 1 => .array (.object "FurPosts$Way")
  | 2 => .array (.object "FurPosts$Canoe")
  | 3 => .array (.object "FurPosts$Letter")
  | 4 => .array (.array .int)
  | 5 => .array (.array .int)
  | 6 => .array (.array .int)
  | 7 => .array .int
  | 8 => .int
  | 9 => .int
  | 10 => .int
  | 11 => .int
  | 12 => .int
  | _ => .int
abbrev wsX70 : List Cond := u_ws RX7 TX7 14
theorem nmX7 : ∀ a, a < 14 → ∀ b, b < 14 → a ≠ b → (TX7 a).2.1 ≠ (TX7 b).2.1 := by decide +kernel
theorem tyX7_ok : ∀ k, k < 14 → parseFieldDescriptor (TX7 k).2.2.1 = some (tyX7 k) := by decide +kernel
abbrev cX7_init : ByteArray := prog_1_method_1_code
def yX7_init : MethodName := ⟨RX7, "<init>", "()V"⟩
abbrev cX7_post : ByteArray := prog_1_method_2_code
def yX7_post : MethodName := ⟨RX7, "post", "()I"⟩
abbrev cX7_way : ByteArray := prog_1_method_3_code
def yX7_way : MethodName := ⟨RX7, "way", "(IIII)I"⟩
abbrev cX7_next : ByteArray := prog_1_method_4_code
def yX7_next : MethodName := ⟨RX7, "next", "(II)I"⟩
abbrev cX7_shortenDistances : ByteArray := prog_1_method_5_code
def yX7_shortenDistances : MethodName := ⟨RX7, "shortenDistances", "(II)V"⟩
abbrev cX7_store : ByteArray := prog_1_method_6_code
def yX7_store : MethodName := ⟨RX7, "store", "(III)I"⟩
abbrev cX7_load : ByteArray := prog_1_method_7_code
def yX7_load : MethodName := ⟨RX7, "load", "(II)Z"⟩
abbrev cX7_send : ByteArray := prog_1_method_8_code
def yX7_send : MethodName := ⟨RX7, "send", "(II)I"⟩
abbrev cX7_lose : ByteArray := prog_1_method_9_code
def yX7_lose : MethodName := ⟨RX7, "lose", "(I)I"⟩
abbrev cX7_spoil : ByteArray := prog_1_method_10_code
def yX7_spoil : MethodName := ⟨RX7, "spoil", "(III)Z"⟩
abbrev cX7_go : ByteArray := prog_1_method_11_code
def yX7_go : MethodName := ⟨RX7, "go", "(I)I"⟩
abbrev cX7_canLoad : ByteArray := prog_1_method_12_code
def yX7_canLoad : MethodName := ⟨RX7, "canLoad", "(LFurPosts$Post;LFurPosts$Way;)Z"⟩
abbrev cX7_takeLetters : ByteArray := prog_1_method_13_code
def yX7_takeLetters : MethodName := ⟨RX7, "takeLetters", "(ILFurPosts$Canoe;)I"⟩
abbrev cX7_loseLetters : ByteArray := prog_1_method_14_code
def yX7_loseLetters : MethodName := ⟨RX7, "loseLetters", "(I)V"⟩
abbrev cX7_moveCanoe : ByteArray := prog_1_method_15_code
def yX7_moveCanoe : MethodName := ⟨RX7, "moveCanoe", "(I)V"⟩
abbrev cX7_landCanoe : ByteArray := prog_1_method_16_code
def yX7_landCanoe : MethodName := ⟨RX7, "landCanoe", "(LFurPosts$Canoe;LFurPosts$Post;)V"⟩
abbrev cX7_landLetters : ByteArray := prog_1_method_17_code
def yX7_landLetters : MethodName := ⟨RX7, "landLetters", "(IILFurPosts$Post;)V"⟩
abbrev cX7_sell : ByteArray := prog_1_method_18_code
def yX7_sell : MethodName := ⟨RX7, "sell", "(IIII)I"⟩
abbrev cX7_buy : ByteArray := prog_1_method_19_code
def yX7_buy : MethodName := ⟨RX7, "buy", "(IIII)I"⟩
abbrev cX7_give : ByteArray := prog_1_method_20_code
def yX7_give : MethodName := ⟨RX7, "give", "(IIII)I"⟩
abbrev cX7_owes : ByteArray := prog_1_method_21_code
def yX7_owes : MethodName := ⟨RX7, "owes", "(II)I"⟩
abbrev cX7_price : ByteArray := prog_1_method_22_code
def yX7_price : MethodName := ⟨RX7, "price", "(II)I"⟩
abbrev cX7_isTrade : ByteArray := prog_1_method_23_code
def yX7_isTrade : MethodName := ⟨RX7, "isTrade", "(III)Z"⟩
abbrev cX7_order : ByteArray := prog_1_method_24_code
def yX7_order : MethodName := ⟨RX7, "order", "(IIII)I"⟩
abbrev cX7_debt : ByteArray := prog_1_method_25_code
def yX7_debt : MethodName := ⟨RX7, "debt", "(III)I"⟩
abbrev cX7_report : ByteArray := prog_1_method_26_code
def yX7_report : MethodName := ⟨RX7, "report", "(II)I"⟩
abbrev cX7_known : ByteArray := prog_1_method_27_code
def yX7_known : MethodName := ⟨RX7, "known", "(III)I"⟩
abbrev cX7_knownDay : ByteArray := prog_1_method_28_code
def yX7_knownDay : MethodName := ⟨RX7, "knownDay", "(II)I"⟩
abbrev cX7_canWrite : ByteArray := prog_1_method_29_code
def yX7_canWrite : MethodName := ⟨RX7, "canWrite", "(II)Z"⟩
abbrev cX7_putInBag : ByteArray := prog_1_method_30_code
def yX7_putInBag : MethodName := ⟨RX7, "putInBag", "(LFurPosts$Letter;)I"⟩
abbrev cX7_want : ByteArray := prog_1_method_31_code
def yX7_want : MethodName := ⟨RX7, "want", "(III)Z"⟩
abbrev cX7_indent : ByteArray := prog_1_method_32_code
def yX7_indent : MethodName := ⟨RX7, "indent", "(IIII)I"⟩
abbrev cX7_cost : ByteArray := prog_1_method_33_code
def yX7_cost : MethodName := ⟨RX7, "cost", "(IIIII)I"⟩
abbrev cX7_areWantsRight : ByteArray := prog_1_method_34_code
def yX7_areWantsRight : MethodName := ⟨RX7, "areWantsRight", "(I)Z"⟩
abbrev cX7_quarrel : ByteArray := prog_1_method_35_code
def yX7_quarrel : MethodName := ⟨RX7, "quarrel", "(II)I"⟩
abbrev cX7_canoe : ByteArray := prog_1_method_36_code
def yX7_canoe : MethodName := ⟨RX7, "canoe", "(II)I"⟩
abbrev cX7_told : ByteArray := prog_1_method_37_code
def yX7_told : MethodName := ⟨RX7, "told", "(II)I"⟩
abbrev cX7_count : ByteArray := prog_1_method_38_code
def yX7_count : MethodName := ⟨RX7, "count", "(II)I"⟩
abbrev cX7_countBag : ByteArray := prog_1_method_39_code
def yX7_countBag : MethodName := ⟨RX7, "countBag", "(I)I"⟩
abbrev cX7_countOfAll : ByteArray := prog_1_method_40_code
def yX7_countOfAll : MethodName := ⟨RX7, "countOfAll", "(I)I"⟩
abbrev cX7_isWithin : ByteArray := prog_1_method_41_code
def yX7_isWithin : MethodName := ⟨RX7, "isWithin", "(III)Z"⟩
abbrev cX7_isWare : ByteArray := prog_1_method_42_code
def yX7_isWare : MethodName := ⟨RX7, "isWare", "(I)Z"⟩
abbrev cX7_isHunter : ByteArray := prog_1_method_43_code
def yX7_isHunter : MethodName := ⟨RX7, "isHunter", "(I)Z"⟩
abbrev cX7_areTwoPosts : ByteArray := prog_1_method_44_code
def yX7_areTwoPosts : MethodName := ⟨RX7, "areTwoPosts", "(II)Z"⟩
abbrev cX7_postAt : ByteArray := prog_1_method_45_code
def yX7_postAt : MethodName := ⟨RX7, "postAt", "(I)LFurPosts$Post;"⟩
abbrev cX7_wayAt : ByteArray := prog_1_method_46_code
def yX7_wayAt : MethodName := ⟨RX7, "wayAt", "(I)LFurPosts$Way;"⟩
abbrev cX7_canoeAt : ByteArray := prog_1_method_47_code
def yX7_canoeAt : MethodName := ⟨RX7, "canoeAt", "(I)LFurPosts$Canoe;"⟩
abbrev cX7_letterAt : ByteArray := prog_1_method_48_code
def yX7_letterAt : MethodName := ⟨RX7, "letterAt", "(I)LFurPosts$Letter;"⟩
def RX8 : String := "FurPostsModel"
def TX8 : u_T := fun k => match k with
  | 0 => ("FurPostsModel", "now", "I", false)
  | 1 => ("FurPostsModel", "posts", "I", false)
  | 2 => ("FurPostsModel", "store", "[I", true)
  | 3 => ("FurPostsModel", "price", "[I", true)
  | 4 => ("FurPostsModel", "owes", "[I", true)
  | 5 => ("FurPostsModel", "ways", "I", false)
  | 6 => ("FurPostsModel", "wayA", "[I", true)
  | 7 => ("FurPostsModel", "wayB", "[I", true)
  | 8 => ("FurPostsModel", "wayLong", "[I", true)
  | 9 => ("FurPostsModel", "opens", "[I", true)
  | 10 => ("FurPostsModel", "shuts", "[I", true)
  | 11 => ("FurPostsModel", "bears", "[I", true)
  | 12 => ("FurPostsModel", "loaded", "[I", true)
  | 13 => ("FurPostsModel", "canoes", "I", false)
  | 14 => ("FurPostsModel", "from", "[I", true)
  | 15 => ("FurPostsModel", "to", "[I", true)
  | 16 => ("FurPostsModel", "wayOf", "[I", true)
  | 17 => ("FurPostsModel", "toGo", "[I", true)
  | 18 => ("FurPostsModel", "state", "[I", true)
  | 19 => ("FurPostsModel", "sentOn", "[I", true)
  | 20 => ("FurPostsModel", "cameOn", "[I", true)
  | 21 => ("FurPostsModel", "withLetters", "[I", true)
  | 22 => ("FurPostsModel", "has", "[I", true)
  | 23 => ("FurPostsModel", "sent", "[I", true)
  | 24 => ("FurPostsModel", "isOther", "[Z", true)
  | 25 => ("FurPostsModel", "letters", "I", false)
  | 26 => ("FurPostsModel", "letterKind", "[I", true)
  | 27 => ("FurPostsModel", "letterTo", "[I", true)
  | 28 => ("FurPostsModel", "letterAt", "[I", true)
  | 29 => ("FurPostsModel", "letterOne", "[I", true)
  | 30 => ("FurPostsModel", "letterTwo", "[I", true)
  | 31 => ("FurPostsModel", "letterStore", "[I", true)
  | 32 => ("FurPostsModel", "reported", "[I", true)
  | 33 => ("FurPostsModel", "parts", "[I", true)
  | 34 => ("FurPostsModel", "sums", "[I", true)
  | 35 => ("FurPostsModel", "debtsLost", "I", false)
  | _ => ("FurPostsModel", "far", "[I", true)
def tyX8 : Nat → FieldType := fun k => match k with
  | 0 => .int
  | 1 => .int
  | 2 => .array .int
  | 3 => .array .int
  | 4 => .array .int
  | 5 => .int
  | 6 => .array .int
  | 7 => .array .int
  | 8 => .array .int
  | 9 => .array .int
  | 10 => .array .int
  | 11 => .array .int
  | 12 => .array .int
  | 13 => .int
  | 14 => .array .int
  | 15 => .array .int
  | 16 => .array .int
  | 17 => .array .int
  | 18 => .array .int
  | 19 => .array .int
  | 20 => .array .int
  | 21 => .array .int
  | 22 => .array .int
  | 23 => .array .int
  | 24 => .array .boolean
  | 25 => .int
  | 26 => .array .int
  | 27 => .array .int
  | 28 => .array .int
  | 29 => .array .int
  | 30 => .array .int
  | 31 => .array .int
  | 32 => .array .int
  | 33 => .array .int
  | 34 => .array .int
  | 35 => .int
  | _ => .array .int
abbrev wsX80 : List Cond := u_ws RX8 TX8 37
theorem nmX8 : ∀ a, a < 37 → ∀ b, b < 37 → a ≠ b → (TX8 a).2.1 ≠ (TX8 b).2.1 := by decide +kernel
theorem tyX8_ok : ∀ k, k < 37 → parseFieldDescriptor (TX8 k).2.2.1 = some (tyX8 k) := by decide +kernel
abbrev cX8_init : ByteArray := prog_10_method_1_code
def yX8_init : MethodName := ⟨RX8, "<init>", "()V"⟩
abbrev cX8_in : ByteArray := prog_10_method_2_code
def yX8_in : MethodName := ⟨RX8, "in", "(III)Z"⟩
abbrev cX8_isPost : ByteArray := prog_10_method_3_code
def yX8_isPost : MethodName := ⟨RX8, "isPost", "(I)Z"⟩
abbrev cX8_isWare : ByteArray := prog_10_method_4_code
def yX8_isWare : MethodName := ⟨RX8, "isWare", "(I)Z"⟩
abbrev cX8_isCanoe : ByteArray := prog_10_method_5_code
def yX8_isCanoe : MethodName := ⟨RX8, "isCanoe", "(I)Z"⟩
abbrev cX8_post : ByteArray := prog_10_method_6_code
def yX8_post : MethodName := ⟨RX8, "post", "()I"⟩
abbrev cX8_between : ByteArray := prog_10_method_7_code
def yX8_between : MethodName := ⟨RX8, "between", "(II)I"⟩
abbrev cX8_way : ByteArray := prog_10_method_8_code
def yX8_way : MethodName := ⟨RX8, "way", "(IIII)I"⟩
abbrev cX8_isOpen : ByteArray := prog_10_method_9_code
def yX8_isOpen : MethodName := ⟨RX8, "isOpen", "(II)Z"⟩
abbrev cX8_stored : ByteArray := prog_10_method_10_code
def yX8_stored : MethodName := ⟨RX8, "stored", "(II)I"⟩
abbrev cX8_sums : ByteArray := prog_10_method_11_code
def yX8_sums : MethodName := ⟨RX8, "sums", "(III)V"⟩
abbrev cX8_store : ByteArray := prog_10_method_12_code
def yX8_store : MethodName := ⟨RX8, "store", "(III)I"⟩
abbrev cX8_load : ByteArray := prog_10_method_13_code
def yX8_load : MethodName := ⟨RX8, "load", "(II)Z"⟩
abbrev cX8_send : ByteArray := prog_10_method_14_code
def yX8_send : MethodName := ⟨RX8, "send", "(II)I"⟩
abbrev cX8_isAway : ByteArray := prog_10_method_15_code
def yX8_isAway : MethodName := ⟨RX8, "isAway", "(I)Z"⟩
abbrev cX8_lose : ByteArray := prog_10_method_16_code
def yX8_lose : MethodName := ⟨RX8, "lose", "(I)I"⟩
abbrev cX8_spoil : ByteArray := prog_10_method_17_code
def yX8_spoil : MethodName := ⟨RX8, "spoil", "(III)Z"⟩
abbrev cX8_comes : ByteArray := prog_10_method_18_code
def yX8_comes : MethodName := ⟨RX8, "comes", "(I)V"⟩
abbrev cX8_reads : ByteArray := prog_10_method_19_code
def yX8_reads : MethodName := ⟨RX8, "reads", "(I)V"⟩
abbrev cX8_go : ByteArray := prog_10_method_20_code
def yX8_go : MethodName := ⟨RX8, "go", "(I)I"⟩
abbrev cX8_isDeal : ByteArray := prog_10_method_21_code
def yX8_isDeal : MethodName := ⟨RX8, "isDeal", "(IIII)Z"⟩
abbrev cX8_sell : ByteArray := prog_10_method_22_code
def yX8_sell : MethodName := ⟨RX8, "sell", "(IIII)I"⟩
abbrev cX8_buy : ByteArray := prog_10_method_23_code
def yX8_buy : MethodName := ⟨RX8, "buy", "(IIII)I"⟩
abbrev cX8_give : ByteArray := prog_10_method_24_code
def yX8_give : MethodName := ⟨RX8, "give", "(IIII)I"⟩
abbrev cX8_owes : ByteArray := prog_10_method_25_code
def yX8_owes : MethodName := ⟨RX8, "owes", "(II)I"⟩
abbrev cX8_price : ByteArray := prog_10_method_26_code
def yX8_price : MethodName := ⟨RX8, "price", "(II)I"⟩
abbrev cX8_canWrite : ByteArray := prog_10_method_27_code
def yX8_canWrite : MethodName := ⟨RX8, "canWrite", "(II)Z"⟩
abbrev cX8_writes : ByteArray := prog_10_method_28_code
def yX8_writes : MethodName := ⟨RX8, "writes", "(IIIII)I"⟩
abbrev cX8_order : ByteArray := prog_10_method_29_code
def yX8_order : MethodName := ⟨RX8, "order", "(IIII)I"⟩
abbrev cX8_debt : ByteArray := prog_10_method_30_code
def yX8_debt : MethodName := ⟨RX8, "debt", "(III)I"⟩
abbrev cX8_report : ByteArray := prog_10_method_31_code
def yX8_report : MethodName := ⟨RX8, "report", "(II)I"⟩
abbrev cX8_known : ByteArray := prog_10_method_32_code
def yX8_known : MethodName := ⟨RX8, "known", "(III)I"⟩
abbrev cX8_knownDay : ByteArray := prog_10_method_33_code
def yX8_knownDay : MethodName := ⟨RX8, "knownDay", "(II)I"⟩
abbrev cX8_next : ByteArray := prog_10_method_34_code
def yX8_next : MethodName := ⟨RX8, "next", "(II)I"⟩
abbrev cX8_want : ByteArray := prog_10_method_35_code
def yX8_want : MethodName := ⟨RX8, "want", "(III)Z"⟩
abbrev cX8_cost : ByteArray := prog_10_method_36_code
def yX8_cost : MethodName := ⟨RX8, "cost", "(IIIII)I"⟩
abbrev cX8_indent : ByteArray := prog_10_method_37_code
def yX8_indent : MethodName := ⟨RX8, "indent", "(IIII)I"⟩
abbrev cX8_quarrel : ByteArray := prog_10_method_38_code
def yX8_quarrel : MethodName := ⟨RX8, "quarrel", "(II)I"⟩
abbrev cX8_canoe : ByteArray := prog_10_method_39_code
def yX8_canoe : MethodName := ⟨RX8, "canoe", "(II)I"⟩
abbrev cX8_told : ByteArray := prog_10_method_40_code
def yX8_told : MethodName := ⟨RX8, "told", "(II)I"⟩
abbrev cX8_count : ByteArray := prog_10_method_41_code
def yX8_count : MethodName := ⟨RX8, "count", "(II)I"⟩
def RJx8e188 : String := "java/lang/Cloneable"
def TJx8e188 : u_T := fun k => match k with
  | _ => ("", "", "", false)
def tyJx8e188 : Nat → FieldType := fun k => match k with
  | _ => .int
abbrev wsJx8e1880 : List Cond := u_ws RJx8e188 TJx8e188 0
theorem nmJx8e188 : ∀ a, a < 0 → ∀ b, b < 0 → a ≠ b → (TJx8e188 a).2.1 ≠ (TJx8e188 b).2.1 := by decide +kernel
theorem tyJx8e188_ok : ∀ k, k < 0 → parseFieldDescriptor (TJx8e188 k).2.2.1 = some (tyJx8e188 k) := by decide +kernel
def RJ9 : String := "java/lang/Math"
def TJ9 : u_T := fun k => match k with
  | _ => ("", "", "", false)
def tyJ9 : Nat → FieldType := fun k => match k with
  | _ => .int
abbrev wsJ90 : List Cond := u_ws RJ9 TJ9 0
theorem nmJ9 : ∀ a, a < 0 → ∀ b, b < 0 → a ≠ b → (TJ9 a).2.1 ≠ (TJ9 b).2.1 := by decide +kernel
theorem tyJ9_ok : ∀ k, k < 0 → parseFieldDescriptor (TJ9 k).2.2.1 = some (tyJ9 k) := by decide +kernel
abbrev cJ9_min_7cf53 : ByteArray := prog_12_method_69_code
def yJ9_min_7cf53 : MethodName := ⟨RJ9, "min", "(II)I"⟩
def RJ7 : String := "java/util/Arrays"
def TJ7 : u_T := fun k => match k with
  | _ => ("", "", "", false)
def tyJ7 : Nat → FieldType := fun k => match k with
  | _ => .int
abbrev wsJ70 : List Cond := u_ws RJ7 TJ7 0
theorem nmJ7 : ∀ a, a < 0 → ∀ b, b < 0 → a ≠ b → (TJ7 a).2.1 ≠ (TJ7 b).2.1 := by decide +kernel
theorem tyJ7_ok : ∀ k, k < 0 → parseFieldDescriptor (TJ7 k).2.2.1 = some (tyJ7 k) := by decide +kernel
abbrev cJ7_fill_53178 : ByteArray := prog_13_method_103_code
def yJ7_fill_53178 : MethodName := ⟨RJ7, "fill", "([II)V"⟩
def RL : String := "FurPostsLaw"
abbrev cL_law : ByteArray := code
def yL_law : MethodName := ⟨RL, "law", "([I)Z"⟩
def wsX0_init : List Cond := .code yX0_init cX0_init 7 none :: ([.methodLink RX0 3 objectInit, .instanceMethod objectInit, .code objectInit ⟨#[0xb1]⟩ 1 none, .fieldLink RX0 9 "FurPosts$Canoe" "dayCame" "I", .fieldLink RX0 15 "FurPosts$Canoe" "state" "I", .fieldLink RX0 18 "FurPosts$Canoe" "from" "I", .fieldLink RX0 21 "FurPosts$Canoe" "to" "I", .fieldLink RX0 24 "FurPosts$Canoe" "way" "I", .fieldLink RX0 27 "FurPosts$Canoe" "daysToGo" "I", .fieldLink RX0 30 "FurPosts$Canoe" "daySent" "I", .fieldLink RX0 33 "FurPosts$Canoe" "waresSent" "[I", .methodLink RX0 37 ⟨"[I", "clone", "()Ljava/lang/Object;"⟩, .sameMethod "[I" "java/lang/Object" "clone" "()Ljava/lang/Object;", .native ⟨"java/lang/Object", "clone", "()Ljava/lang/Object;"⟩, .instanceMethod ⟨"java/lang/Object", "clone", "()Ljava/lang/Object;"⟩, .selects "[I" ⟨"[I", "clone", "()Ljava/lang/Object;"⟩ ⟨"java/lang/Object", "clone", "()Ljava/lang/Object;"⟩, .classLink RX0 38 "[I", .fieldLink RX0 42 "FurPosts$Canoe" "wares" "[I"] ++ wsX00)
def wsX0_isBetween : List Cond := .code yX0_isBetween cX0_isBetween 3 (some .boolean) :: ([.fieldLink RX0 18 "FurPosts$Canoe" "from" "I", .fieldLink RX0 21 "FurPosts$Canoe" "to" "I"] ++ wsX00)
def wsX0_partsBooks : List Cond := .code yX0_partsBooks cX0_partsBooks 1 (some .boolean) :: ([.fieldLink RX0 15 "FurPosts$Canoe" "state" "I", .fieldLink RX0 45 "FurPosts$Canoe" "spoilt" "Z"] ++ wsX00)
def wsX2_init : List Cond := .code yX2_init cX2_init 3 none :: ([.methodLink RX2 3 objectInit, .instanceMethod objectInit, .code objectInit ⟨#[0xb1]⟩ 1 none, .fieldLink RX2 9 "FurPosts$Letter" "carrier" "I", .fieldLink RX2 15 "FurPosts$Letter" "from" "I", .fieldLink RX2 18 "FurPosts$Letter" "to" "I", .fieldLink RX2 21 "FurPosts$Letter" "bag" "I"] ++ wsX10 ++ wsX30 ++ wsX50)
def wsX1_init : List Cond := .code yX1_init cX1_init 5 none :: ([.fieldLink RX1 7 "FurPosts$Debt" "hunter" "I", .fieldLink RX1 13 "FurPosts$Debt" "coins" "I", .methodLink RX1 1 yX2_init, .instanceMethod yX2_init, .initialized RX2, .code yX2_init cX2_init 3 none, .methodLink RX2 3 objectInit, .instanceMethod objectInit, .code objectInit ⟨#[0xb1]⟩ 1 none, .fieldLink RX2 9 "FurPosts$Letter" "carrier" "I", .fieldLink RX2 15 "FurPosts$Letter" "from" "I", .fieldLink RX2 18 "FurPosts$Letter" "to" "I", .fieldLink RX2 21 "FurPosts$Letter" "bag" "I"] ++ wsX10 ++ wsX30 ++ wsX50)
def wsX7_isHunter : List Cond := .code yX7_isHunter cX7_isHunter 1 (some .boolean) :: ([])
def wsX1_readAt : List Cond := .code yX1_readAt cX1_readAt 2 none :: ([.fieldLink RX1 7 "FurPosts$Debt" "hunter" "I", .fieldLink RX1 22 "FurPosts$Post" "owed" "[I", .fieldLink RX1 13 "FurPosts$Debt" "coins" "I", .static yX7_isHunter, .initialized RX7, .code yX7_isHunter cX7_isHunter 1 (some .boolean)] ++ wsX10 ++ wsX40)
def wsX3_init : List Cond := .code yX3_init cX3_init 5 none :: ([.fieldLink RX3 7 "FurPosts$Order" "ware" "I", .fieldLink RX3 13 "FurPosts$Order" "asked" "I", .methodLink RX3 1 yX2_init, .instanceMethod yX2_init, .initialized RX2, .code yX2_init cX2_init 3 none, .methodLink RX2 3 objectInit, .instanceMethod objectInit, .code objectInit ⟨#[0xb1]⟩ 1 none, .fieldLink RX2 9 "FurPosts$Letter" "carrier" "I", .fieldLink RX2 15 "FurPosts$Letter" "from" "I", .fieldLink RX2 18 "FurPosts$Letter" "to" "I", .fieldLink RX2 21 "FurPosts$Letter" "bag" "I"] ++ wsX30 ++ wsX10 ++ wsX50)
def wsX7_isWare : List Cond := .code yX7_isWare cX7_isWare 1 (some .boolean) :: ([])
def wsX3_readAt : List Cond := .code yX3_readAt cX3_readAt 2 none :: ([.fieldLink RX3 7 "FurPosts$Order" "ware" "I", .fieldLink RX3 22 "FurPosts$Post" "prices" "[I", .fieldLink RX3 13 "FurPosts$Order" "asked" "I", .static yX7_isWare, .initialized RX7, .code yX7_isWare cX7_isWare 1 (some .boolean)] ++ wsX30 ++ wsX40)
def wsJ7_fill_53178 : List Cond := .code yJ7_fill_53178 cJ7_fill_53178 4 none :: ([])
def wsX4_init : List Cond := .code yX4_init cX4_init 1 none :: ([.methodLink RX4 3 objectInit, .instanceMethod objectInit, .code objectInit ⟨#[0xb1]⟩ 1 none, .arrayClass .int, .fieldLink RX4 9 "FurPosts$Post" "stock" "[I", .fieldLink RX4 15 "FurPosts$Post" "prices" "[I", .fieldLink RX4 18 "FurPosts$Post" "owed" "[I", .classLink RX4 21 RX5, .fieldLink RX4 23 "FurPosts$Post" "reports" "[LFurPosts$Report;", .methodLink RX4 27 yJ7_fill_53178, .static yJ7_fill_53178, .initialized RJ7, .code yJ7_fill_53178 cJ7_fill_53178 4 none] ++ wsX40)
def wsX4_reportOf : List Cond := .code yX4_reportOf cX4_reportOf 2 (some (.object "FurPosts$Report")) :: ([.fieldLink RX4 23 "FurPosts$Post" "reports" "[LFurPosts$Report;"] ++ wsX40)
def wsX4_owedByAll : List Cond := .code yX4_owedByAll cX4_owedByAll 3 (some .int) :: ([.fieldLink RX4 18 "FurPosts$Post" "owed" "[I"] ++ wsX40)
def wsX5_init : List Cond := .code yX5_init cX5_init 5 none :: ([.fieldLink RX5 9 "FurPosts$Report" "day" "I", .fieldLink RX5 15 "FurPosts$Report" "stock" "[I", .methodLink RX5 3 yX2_init, .instanceMethod yX2_init, .initialized RX2, .code yX2_init cX2_init 3 none, .methodLink RX2 3 objectInit, .instanceMethod objectInit, .code objectInit ⟨#[0xb1]⟩ 1 none, .fieldLink RX2 9 "FurPosts$Letter" "carrier" "I", .fieldLink RX2 15 "FurPosts$Letter" "from" "I", .fieldLink RX2 18 "FurPosts$Letter" "to" "I", .fieldLink RX2 21 "FurPosts$Letter" "bag" "I"] ++ wsX50 ++ wsX10 ++ wsX30)
def wsX5_readAt : List Cond := .code yX5_readAt cX5_readAt 3 none :: ([.fieldLink RX5 19 "FurPosts$Report" "from" "I", .sameField "FurPosts$Report" "FurPosts$Letter" "from" "I", .fieldLink RX5 9 "FurPosts$Report" "day" "I", .fieldLink RX5 28 "FurPosts$Post" "reports" "[LFurPosts$Report;", .methodLink RX5 22 yX4_reportOf, .instanceMethod yX4_reportOf, .selects RX4 yX4_reportOf yX4_reportOf, .initialized RX4, .code yX4_reportOf cX4_reportOf 2 (some (.object "FurPosts$Report")), .fieldLink RX4 23 "FurPosts$Post" "reports" "[LFurPosts$Report;"] ++ wsX10 ++ wsX30 ++ wsX50 ++ wsX40)
def wsX6_init : List Cond := .code yX6_init cX6_init 7 none :: ([.methodLink RX6 3 objectInit, .instanceMethod objectInit, .code objectInit ⟨#[0xb1]⟩ 1 none, .fieldLink RX6 9 "FurPosts$Way" "a" "I", .fieldLink RX6 15 "FurPosts$Way" "b" "I", .fieldLink RX6 18 "FurPosts$Way" "days" "I", .fieldLink RX6 21 "FurPosts$Way" "firstOpen" "I", .fieldLink RX6 24 "FurPosts$Way" "lastOpen" "I", .fieldLink RX6 27 "FurPosts$Way" "bears" "I"] ++ wsX60)
def wsX6_startsAt : List Cond := .code yX6_startsAt cX6_startsAt 2 (some .boolean) :: ([.fieldLink RX6 9 "FurPosts$Way" "a" "I", .fieldLink RX6 15 "FurPosts$Way" "b" "I"] ++ wsX60)
def wsX6_otherEnd : List Cond := .code yX6_otherEnd cX6_otherEnd 2 (some .int) :: ([.fieldLink RX6 9 "FurPosts$Way" "a" "I", .fieldLink RX6 15 "FurPosts$Way" "b" "I"] ++ wsX60)
def wsX7_isWithin : List Cond := .code yX7_isWithin cX7_isWithin 3 (some .boolean) :: ([])
def wsX6_isOpenOn : List Cond := .code yX6_isOpenOn cX6_isOpenOn 2 (some .boolean) :: ([.fieldLink RX6 21 "FurPosts$Way" "firstOpen" "I", .fieldLink RX6 24 "FurPosts$Way" "lastOpen" "I", .static yX7_isWithin, .initialized RX7, .code yX7_isWithin cX7_isWithin 3 (some .boolean)] ++ wsX60)
def wsX7_init : List Cond := .code yX7_init cX7_init 2 none :: ([.methodLink RX7 1 objectInit, .instanceMethod objectInit, .code objectInit ⟨#[0xb1]⟩ 1 none, .classLink RX7 9 RX4, .fieldLink RX7 11 "FurPosts" "posts" "[LFurPosts$Post;", .classLink RX7 15 RX6, .fieldLink RX7 17 "FurPosts" "ways" "[LFurPosts$Way;", .classLink RX7 21 RX0, .fieldLink RX7 23 "FurPosts" "canoes" "[LFurPosts$Canoe;", .classLink RX7 27 RX2, .fieldLink RX7 29 "FurPosts" "letters" "[LFurPosts$Letter;", .classLink RX7 33 "[[I", .arrayClass .int, .fieldLink RX7 35 "FurPosts" "distances" "[[I", .fieldLink RX7 38 "FurPosts" "wants" "[[I", .fieldLink RX7 41 "FurPosts" "tallies" "[[I", .fieldLink RX7 44 "FurPosts" "loaded" "[I", .methodLink RX7 48 yJ7_fill_53178, .static yJ7_fill_53178, .initialized RJ7, .code yJ7_fill_53178 cJ7_fill_53178 4 none] ++ wsX70)
def wsX7_post : List Cond := .code yX7_post cX7_post 1 (some .int) :: ([.fieldLink RX7 54 "FurPosts" "postCount" "I", .fieldLink RX7 11 "FurPosts" "posts" "[LFurPosts$Post;", .classLink RX7 9 RX4, .instantiable RX4 4, .initialized RX4, .methodLink RX7 58 yX4_init, .instanceMethod yX4_init, .code yX4_init cX4_init 1 none, .methodLink RX4 3 objectInit, .instanceMethod objectInit, .code objectInit ⟨#[0xb1]⟩ 1 none, .arrayClass .int, .fieldLink RX4 9 "FurPosts$Post" "stock" "[I", .fieldLink RX4 15 "FurPosts$Post" "prices" "[I", .fieldLink RX4 18 "FurPosts$Post" "owed" "[I", .classLink RX4 21 RX5, .fieldLink RX4 23 "FurPosts$Post" "reports" "[LFurPosts$Report;", .methodLink RX4 27 yJ7_fill_53178, .static yJ7_fill_53178, .initialized RJ7, .code yJ7_fill_53178 cJ7_fill_53178 4 none] ++ wsX70 ++ wsX40)
def wsX7_postAt : List Cond := .code yX7_postAt cX7_postAt 2 (some (.object "FurPosts$Post")) :: ([.fieldLink RX7 11 "FurPosts" "posts" "[LFurPosts$Post;"] ++ wsX70)
def wsX7_areTwoPosts : List Cond := .code yX7_areTwoPosts cX7_areTwoPosts 3 (some .boolean) :: ([.methodLink RX7 84 yX7_postAt, .instanceMethod yX7_postAt, .selects RX7 yX7_postAt yX7_postAt, .initialized RX7, .code yX7_postAt cX7_postAt 2 (some (.object "FurPosts$Post")), .fieldLink RX7 11 "FurPosts" "posts" "[LFurPosts$Post;"] ++ wsX70)
def wsX7_shortenDistances : List Cond := .code yX7_shortenDistances cX7_shortenDistances 7 none :: ([.fieldLink RX7 35 "FurPosts" "distances" "[[I", .methodLink RX7 78 Lib.Math.min.name, .static Lib.Math.min.name, .initialized "java/lang/Math", .code Lib.Math.min.name Lib.Math.min.code 2 (some .int)] ++ wsX70)
def wsX7_way_r1 : List Cond := [Cond.fieldLink RX7 35 "FurPosts" "distances" "[[I", Cond.fieldLink RX7 63 "FurPosts" "wayCount" "I", Cond.constant RX7 70 (1000000), Cond.fieldLink RX7 17 "FurPosts" "ways" "[LFurPosts$Way;", Cond.classLink RX7 15 RX6, Cond.instantiable RX6 6, Cond.initialized RX6, Cond.methodLink RX7 59 yX7_areTwoPosts, Cond.instanceMethod yX7_areTwoPosts, Cond.selects RX7 yX7_areTwoPosts yX7_areTwoPosts, Cond.initialized RX7, Cond.code yX7_areTwoPosts cX7_areTwoPosts 3 (some .boolean), Cond.methodLink RX7 84 yX7_postAt, Cond.instanceMethod yX7_postAt, Cond.selects RX7 yX7_postAt yX7_postAt, Cond.code yX7_postAt cX7_postAt 2 (some (.object "FurPosts$Post")), Cond.fieldLink RX7 11 "FurPosts" "posts" "[LFurPosts$Post;", Cond.methodLink RX7 66 yX7_isWithin, Cond.static yX7_isWithin, Cond.code yX7_isWithin cX7_isWithin 3 (some .boolean), Cond.methodLink RX7 71 yX6_init, Cond.instanceMethod yX6_init, Cond.code yX6_init cX6_init 7 none, Cond.methodLink RX6 3 objectInit]
def wsX7_way_r2 : List Cond := [Cond.instanceMethod objectInit, Cond.code objectInit ⟨#[0xb1]⟩ 1 none, Cond.fieldLink RX6 9 "FurPosts$Way" "a" "I", Cond.fieldLink RX6 15 "FurPosts$Way" "b" "I", Cond.fieldLink RX6 18 "FurPosts$Way" "days" "I", Cond.fieldLink RX6 21 "FurPosts$Way" "firstOpen" "I", Cond.fieldLink RX6 24 "FurPosts$Way" "lastOpen" "I", Cond.fieldLink RX6 27 "FurPosts$Way" "bears" "I", Cond.methodLink RX7 74 yX7_shortenDistances, Cond.instanceMethod yX7_shortenDistances, Cond.selects RX7 yX7_shortenDistances yX7_shortenDistances, Cond.code yX7_shortenDistances cX7_shortenDistances 7 none, Cond.methodLink RX7 78 Lib.Math.min.name, Cond.static Lib.Math.min.name, Cond.initialized "java/lang/Math", Cond.code Lib.Math.min.name Lib.Math.min.code 2 (some .int)]
def wsX7_way : List Cond := .code yX7_way cX7_way 8 (some .int) :: ((wsX7_way_r1 ++ wsX7_way_r2) ++ wsX70 ++ wsX60)
def wsX7_next : List Cond := .code yX7_next cX7_next 4 (some .int) :: ([.fieldLink RX7 35 "FurPosts" "distances" "[[I", .methodLink RX7 59 yX7_areTwoPosts, .instanceMethod yX7_areTwoPosts, .selects RX7 yX7_areTwoPosts yX7_areTwoPosts, .initialized RX7, .code yX7_areTwoPosts cX7_areTwoPosts 3 (some .boolean), .methodLink RX7 84 yX7_postAt, .instanceMethod yX7_postAt, .selects RX7 yX7_postAt yX7_postAt, .code yX7_postAt cX7_postAt 2 (some (.object "FurPosts$Post")), .fieldLink RX7 11 "FurPosts" "posts" "[LFurPosts$Post;"] ++ wsX70)
def wsX7_store : List Cond := .code yX7_store cX7_store 5 (some .int) :: ([.fieldLink RX7 92 "FurPosts$Post" "stock" "[I", .constant RX7 95 (100000), .fieldLink RX7 41 "FurPosts" "tallies" "[[I", .methodLink RX7 84 yX7_postAt, .instanceMethod yX7_postAt, .selects RX7 yX7_postAt yX7_postAt, .initialized RX7, .code yX7_postAt cX7_postAt 2 (some (.object "FurPosts$Post")), .fieldLink RX7 11 "FurPosts" "posts" "[LFurPosts$Post;", .methodLink RX7 88 yX7_isWare, .static yX7_isWare, .code yX7_isWare cX7_isWare 1 (some .boolean), .methodLink RX7 66 yX7_isWithin, .static yX7_isWithin, .code yX7_isWithin cX7_isWithin 3 (some .boolean)] ++ wsX40 ++ wsX70)
def wsX7_load : List Cond := .code yX7_load cX7_load 3 (some .boolean) :: ([.fieldLink RX7 44 "FurPosts" "loaded" "[I", .methodLink RX7 88 yX7_isWare, .static yX7_isWare, .initialized RX7, .code yX7_isWare cX7_isWare 1 (some .boolean), .methodLink RX7 66 yX7_isWithin, .static yX7_isWithin, .code yX7_isWithin cX7_isWithin 3 (some .boolean)] ++ wsX70)
def wsX7_wayAt : List Cond := .code yX7_wayAt cX7_wayAt 2 (some (.object "FurPosts$Way")) :: ([.fieldLink RX7 17 "FurPosts" "ways" "[LFurPosts$Way;"] ++ wsX70)
def wsX7_canLoad : List Cond := .code yX7_canLoad cX7_canLoad 5 (some .boolean) :: ([.fieldLink RX7 44 "FurPosts" "loaded" "[I", .fieldLink RX7 92 "FurPosts$Post" "stock" "[I", .fieldLink RX7 162 "FurPosts$Way" "bears" "I"] ++ wsX70 ++ wsX40 ++ wsX60)
def wsX7_letterAt : List Cond := .code yX7_letterAt cX7_letterAt 2 (some (.object "FurPosts$Letter")) :: ([.fieldLink RX7 29 "FurPosts" "letters" "[LFurPosts$Letter;"] ++ wsX70)
def wsX7_takeLetters_r1 : List Cond := [Cond.fieldLink RX7 165 "FurPosts" "letterCount" "I", Cond.fieldLink RX7 172 "FurPosts$Letter" "bag" "I", Cond.fieldLink RX7 175 "FurPosts$Canoe" "from" "I", Cond.fieldLink RX7 178 "FurPosts$Letter" "to" "I", Cond.fieldLink RX7 184 "FurPosts$Canoe" "to" "I", Cond.fieldLink RX7 185 "FurPosts$Letter" "carrier" "I", Cond.methodLink RX7 168 yX7_letterAt, Cond.instanceMethod yX7_letterAt, Cond.selects RX7 yX7_letterAt yX7_letterAt, Cond.initialized RX7, Cond.code yX7_letterAt cX7_letterAt 2 (some (.object "FurPosts$Letter")), Cond.fieldLink RX7 29 "FurPosts" "letters" "[LFurPosts$Letter;", Cond.methodLink RX7 181 yX7_next, Cond.instanceMethod yX7_next, Cond.selects RX7 yX7_next yX7_next, Cond.code yX7_next cX7_next 4 (some .int), Cond.fieldLink RX7 35 "FurPosts" "distances" "[[I", Cond.methodLink RX7 59 yX7_areTwoPosts, Cond.instanceMethod yX7_areTwoPosts, Cond.selects RX7 yX7_areTwoPosts yX7_areTwoPosts, Cond.code yX7_areTwoPosts cX7_areTwoPosts 3 (some .boolean), Cond.methodLink RX7 84 yX7_postAt, Cond.instanceMethod yX7_postAt, Cond.selects RX7 yX7_postAt yX7_postAt]
def wsX7_takeLetters_r2 : List Cond := [Cond.code yX7_postAt cX7_postAt 2 (some (.object "FurPosts$Post")), Cond.fieldLink RX7 11 "FurPosts" "posts" "[LFurPosts$Post;"]
def wsX7_takeLetters : List Cond := .code yX7_takeLetters cX7_takeLetters 6 (some .int) :: ((wsX7_takeLetters_r1 ++ wsX7_takeLetters_r2) ++ wsX70 ++ wsX10 ++ wsX30 ++ wsX50 ++ wsX00)
def wsX7_send_r1 : List Cond := [Cond.fieldLink RX7 103 "FurPosts" "now" "I", Cond.fieldLink RX7 113 "FurPosts" "canoeCount" "I", Cond.classLink RX7 21 RX0, Cond.instantiable RX0 11, Cond.initialized RX0, Cond.fieldLink RX7 120 "FurPosts$Way" "days" "I", Cond.fieldLink RX7 44 "FurPosts" "loaded" "[I", Cond.methodLink RX7 123 ⟨"[I", "clone", "()Ljava/lang/Object;"⟩, Cond.sameMethod "[I" "java/lang/Object" "clone" "()Ljava/lang/Object;", Cond.native ⟨"java/lang/Object", "clone", "()Ljava/lang/Object;"⟩, Cond.instanceMethod ⟨"java/lang/Object", "clone", "()Ljava/lang/Object;"⟩, Cond.selects "[I" ⟨"[I", "clone", "()Ljava/lang/Object;"⟩ ⟨"java/lang/Object", "clone", "()Ljava/lang/Object;"⟩, Cond.classLink RX7 124 "[I", Cond.fieldLink RX7 23 "FurPosts" "canoes" "[LFurPosts$Canoe;", Cond.fieldLink RX7 92 "FurPosts$Post" "stock" "[I", Cond.fieldLink RX7 135 "FurPosts$Canoe" "lettersSent" "I", Cond.methodLink RX7 84 yX7_postAt, Cond.instanceMethod yX7_postAt, Cond.selects RX7 yX7_postAt yX7_postAt, Cond.initialized RX7, Cond.code yX7_postAt cX7_postAt 2 (some (.object "FurPosts$Post")), Cond.fieldLink RX7 11 "FurPosts" "posts" "[LFurPosts$Post;", Cond.methodLink RX7 96 yX7_wayAt, Cond.instanceMethod yX7_wayAt]
def wsX7_send_r2 : List Cond := [Cond.selects RX7 yX7_wayAt yX7_wayAt, Cond.code yX7_wayAt cX7_wayAt 2 (some (.object "FurPosts$Way")), Cond.fieldLink RX7 17 "FurPosts" "ways" "[LFurPosts$Way;", Cond.methodLink RX7 100 yX6_startsAt, Cond.instanceMethod yX6_startsAt, Cond.selects RX6 yX6_startsAt yX6_startsAt, Cond.initialized RX6, Cond.code yX6_startsAt cX6_startsAt 2 (some .boolean), Cond.fieldLink RX6 9 "FurPosts$Way" "a" "I", Cond.fieldLink RX6 15 "FurPosts$Way" "b" "I", Cond.methodLink RX7 106 yX6_isOpenOn, Cond.instanceMethod yX6_isOpenOn, Cond.selects RX6 yX6_isOpenOn yX6_isOpenOn, Cond.code yX6_isOpenOn cX6_isOpenOn 2 (some .boolean), Cond.fieldLink RX6 21 "FurPosts$Way" "firstOpen" "I", Cond.fieldLink RX6 24 "FurPosts$Way" "lastOpen" "I", Cond.static yX7_isWithin, Cond.code yX7_isWithin cX7_isWithin 3 (some .boolean), Cond.methodLink RX7 109 yX7_canLoad, Cond.instanceMethod yX7_canLoad, Cond.selects RX7 yX7_canLoad yX7_canLoad, Cond.code yX7_canLoad cX7_canLoad 5 (some .boolean), Cond.fieldLink RX7 162 "FurPosts$Way" "bears" "I", Cond.methodLink RX7 116 yX6_otherEnd]
def wsX7_send_r3 : List Cond := [Cond.instanceMethod yX6_otherEnd, Cond.selects RX6 yX6_otherEnd yX6_otherEnd, Cond.code yX6_otherEnd cX6_otherEnd 2 (some .int), Cond.methodLink RX7 128 yX0_init, Cond.instanceMethod yX0_init, Cond.code yX0_init cX0_init 7 none, Cond.methodLink RX0 3 objectInit, Cond.instanceMethod objectInit, Cond.code objectInit ⟨#[0xb1]⟩ 1 none, Cond.fieldLink RX0 9 "FurPosts$Canoe" "dayCame" "I", Cond.fieldLink RX0 15 "FurPosts$Canoe" "state" "I", Cond.fieldLink RX0 18 "FurPosts$Canoe" "from" "I", Cond.fieldLink RX0 21 "FurPosts$Canoe" "to" "I", Cond.fieldLink RX0 24 "FurPosts$Canoe" "way" "I", Cond.fieldLink RX0 27 "FurPosts$Canoe" "daysToGo" "I", Cond.fieldLink RX0 30 "FurPosts$Canoe" "daySent" "I", Cond.fieldLink RX0 33 "FurPosts$Canoe" "waresSent" "[I", Cond.methodLink RX0 37 ⟨"[I", "clone", "()Ljava/lang/Object;"⟩, Cond.classLink RX0 38 "[I", Cond.fieldLink RX0 42 "FurPosts$Canoe" "wares" "[I", Cond.methodLink RX7 131 yX7_takeLetters, Cond.instanceMethod yX7_takeLetters, Cond.selects RX7 yX7_takeLetters yX7_takeLetters, Cond.code yX7_takeLetters cX7_takeLetters 6 (some .int)]
def wsX7_send_r4 : List Cond := [Cond.fieldLink RX7 165 "FurPosts" "letterCount" "I", Cond.fieldLink RX7 172 "FurPosts$Letter" "bag" "I", Cond.fieldLink RX7 175 "FurPosts$Canoe" "from" "I", Cond.fieldLink RX7 178 "FurPosts$Letter" "to" "I", Cond.fieldLink RX7 184 "FurPosts$Canoe" "to" "I", Cond.fieldLink RX7 185 "FurPosts$Letter" "carrier" "I", Cond.methodLink RX7 168 yX7_letterAt, Cond.instanceMethod yX7_letterAt, Cond.selects RX7 yX7_letterAt yX7_letterAt, Cond.code yX7_letterAt cX7_letterAt 2 (some (.object "FurPosts$Letter")), Cond.fieldLink RX7 29 "FurPosts" "letters" "[LFurPosts$Letter;", Cond.methodLink RX7 181 yX7_next, Cond.instanceMethod yX7_next, Cond.selects RX7 yX7_next yX7_next, Cond.code yX7_next cX7_next 4 (some .int), Cond.fieldLink RX7 35 "FurPosts" "distances" "[[I", Cond.methodLink RX7 59 yX7_areTwoPosts, Cond.instanceMethod yX7_areTwoPosts, Cond.selects RX7 yX7_areTwoPosts yX7_areTwoPosts, Cond.code yX7_areTwoPosts cX7_areTwoPosts 3 (some .boolean)]
def wsX7_send : List Cond := .code yX7_send cX7_send 8 (some .int) :: ((wsX7_send_r1 ++ (wsX7_send_r2 ++ (wsX7_send_r3 ++ wsX7_send_r4))) ++ wsX70 ++ wsX00 ++ wsX60 ++ wsX40 ++ wsX10 ++ wsX30 ++ wsX50)
def wsX7_canoeAt : List Cond := .code yX7_canoeAt cX7_canoeAt 2 (some (.object "FurPosts$Canoe")) :: ([.fieldLink RX7 23 "FurPosts" "canoes" "[LFurPosts$Canoe;"] ++ wsX70)
def wsX7_loseLetters : List Cond := .code yX7_loseLetters cX7_loseLetters 4 none :: ([.fieldLink RX7 165 "FurPosts" "letterCount" "I", .fieldLink RX7 185 "FurPosts$Letter" "carrier" "I", .classLink RX7 188 "FurPosts$Debt", .fieldLink RX7 190 "FurPosts" "debtsLost" "I", .methodLink RX7 168 yX7_letterAt, .instanceMethod yX7_letterAt, .selects RX7 yX7_letterAt yX7_letterAt, .initialized RX7, .code yX7_letterAt cX7_letterAt 2 (some (.object "FurPosts$Letter")), .fieldLink RX7 29 "FurPosts" "letters" "[LFurPosts$Letter;"] ++ wsX70 ++ wsX10 ++ wsX30 ++ wsX50)
def wsX7_lose : List Cond := .code yX7_lose cX7_lose 5 (some .int) :: ([.fieldLink RX7 142 "FurPosts$Canoe" "state" "I", .fieldLink RX7 145 "FurPosts$Canoe" "daysToGo" "I", .fieldLink RX7 148 "FurPosts$Canoe" "wares" "[I", .fieldLink RX7 41 "FurPosts" "tallies" "[[I", .methodLink RX7 138 yX7_canoeAt, .instanceMethod yX7_canoeAt, .selects RX7 yX7_canoeAt yX7_canoeAt, .initialized RX7, .code yX7_canoeAt cX7_canoeAt 2 (some (.object "FurPosts$Canoe")), .fieldLink RX7 23 "FurPosts" "canoes" "[LFurPosts$Canoe;", .methodLink RX7 151 yX7_loseLetters, .instanceMethod yX7_loseLetters, .selects RX7 yX7_loseLetters yX7_loseLetters, .code yX7_loseLetters cX7_loseLetters 4 none, .fieldLink RX7 165 "FurPosts" "letterCount" "I", .fieldLink RX7 185 "FurPosts$Letter" "carrier" "I", .classLink RX7 188 "FurPosts$Debt", .fieldLink RX7 190 "FurPosts" "debtsLost" "I", .methodLink RX7 168 yX7_letterAt, .instanceMethod yX7_letterAt, .selects RX7 yX7_letterAt yX7_letterAt, .code yX7_letterAt cX7_letterAt 2 (some (.object "FurPosts$Letter")), .fieldLink RX7 29 "FurPosts" "letters" "[LFurPosts$Letter;"] ++ wsX00 ++ wsX70 ++ wsX10 ++ wsX30 ++ wsX50)
def wsX7_spoil : List Cond := .code yX7_spoil cX7_spoil 5 (some .boolean) :: ([.fieldLink RX7 142 "FurPosts$Canoe" "state" "I", .fieldLink RX7 148 "FurPosts$Canoe" "wares" "[I", .fieldLink RX7 155 "FurPosts$Canoe" "spoilt" "Z", .fieldLink RX7 41 "FurPosts" "tallies" "[[I", .methodLink RX7 138 yX7_canoeAt, .instanceMethod yX7_canoeAt, .selects RX7 yX7_canoeAt yX7_canoeAt, .initialized RX7, .code yX7_canoeAt cX7_canoeAt 2 (some (.object "FurPosts$Canoe")), .fieldLink RX7 23 "FurPosts" "canoes" "[LFurPosts$Canoe;", .methodLink RX7 88 yX7_isWare, .static yX7_isWare, .code yX7_isWare cX7_isWare 1 (some .boolean), .methodLink RX7 66 yX7_isWithin, .static yX7_isWithin, .code yX7_isWithin cX7_isWithin 3 (some .boolean)] ++ wsX00 ++ wsX70)
def wsX7_landCanoe : List Cond := .code yX7_landCanoe cX7_landCanoe 4 none :: ([.fieldLink RX7 142 "FurPosts$Canoe" "state" "I", .fieldLink RX7 103 "FurPosts" "now" "I", .fieldLink RX7 204 "FurPosts$Canoe" "dayCame" "I", .fieldLink RX7 92 "FurPosts$Post" "stock" "[I", .fieldLink RX7 148 "FurPosts$Canoe" "wares" "[I"] ++ wsX00 ++ wsX70 ++ wsX40)
def wsX7_landLetters_r1 : List Cond := [Cond.fieldLink RX7 165 "FurPosts" "letterCount" "I", Cond.fieldLink RX7 185 "FurPosts$Letter" "carrier" "I", Cond.fieldLink RX7 178 "FurPosts$Letter" "to" "I", Cond.fieldLink RX7 172 "FurPosts$Letter" "bag" "I", Cond.methodLink RX7 168 yX7_letterAt, Cond.instanceMethod yX7_letterAt, Cond.selects RX7 yX7_letterAt yX7_letterAt, Cond.initialized RX7, Cond.code yX7_letterAt cX7_letterAt 2 (some (.object "FurPosts$Letter")), Cond.fieldLink RX7 29 "FurPosts" "letters" "[LFurPosts$Letter;", Cond.methodLink RX7 207 ⟨"FurPosts$Letter", "readAt", "(LFurPosts$Post;)V"⟩, Cond.sameMethod "FurPosts$Letter" "FurPosts$Letter" "readAt" "(LFurPosts$Post;)V", Cond.selects RX1 ⟨"FurPosts$Letter", "readAt", "(LFurPosts$Post;)V"⟩ yX1_readAt, Cond.instanceMethod yX1_readAt, Cond.initialized RX1, Cond.code yX1_readAt cX1_readAt 2 none, Cond.fieldLink RX1 7 "FurPosts$Debt" "hunter" "I", Cond.fieldLink RX1 22 "FurPosts$Post" "owed" "[I", Cond.fieldLink RX1 13 "FurPosts$Debt" "coins" "I", Cond.static yX7_isHunter, Cond.code yX7_isHunter cX7_isHunter 1 (some .boolean), Cond.selects RX3 ⟨"FurPosts$Letter", "readAt", "(LFurPosts$Post;)V"⟩ yX3_readAt, Cond.instanceMethod yX3_readAt, Cond.initialized RX3]
def wsX7_landLetters_r2 : List Cond := [Cond.code yX3_readAt cX3_readAt 2 none, Cond.fieldLink RX3 7 "FurPosts$Order" "ware" "I", Cond.fieldLink RX3 22 "FurPosts$Post" "prices" "[I", Cond.fieldLink RX3 13 "FurPosts$Order" "asked" "I", Cond.static yX7_isWare, Cond.code yX7_isWare cX7_isWare 1 (some .boolean), Cond.selects RX5 ⟨"FurPosts$Letter", "readAt", "(LFurPosts$Post;)V"⟩ yX5_readAt, Cond.instanceMethod yX5_readAt, Cond.initialized RX5, Cond.code yX5_readAt cX5_readAt 3 none, Cond.fieldLink RX5 19 "FurPosts$Report" "from" "I", Cond.sameField "FurPosts$Report" "FurPosts$Letter" "from" "I", Cond.fieldLink RX5 9 "FurPosts$Report" "day" "I", Cond.fieldLink RX5 28 "FurPosts$Post" "reports" "[LFurPosts$Report;", Cond.methodLink RX5 22 yX4_reportOf, Cond.instanceMethod yX4_reportOf, Cond.selects RX4 yX4_reportOf yX4_reportOf, Cond.initialized RX4, Cond.code yX4_reportOf cX4_reportOf 2 (some (.object "FurPosts$Report")), Cond.fieldLink RX4 23 "FurPosts$Post" "reports" "[LFurPosts$Report;"]
def wsX7_landLetters : List Cond := .code yX7_landLetters cX7_landLetters 6 none :: ((wsX7_landLetters_r1 ++ wsX7_landLetters_r2) ++ wsX70 ++ wsX10 ++ wsX30 ++ wsX50 ++ wsX40)
def wsX7_moveCanoe_r1 : List Cond := [Cond.fieldLink RX7 142 "FurPosts$Canoe" "state" "I", Cond.fieldLink RX7 193 "FurPosts$Canoe" "way" "I", Cond.fieldLink RX7 184 "FurPosts$Canoe" "to" "I", Cond.fieldLink RX7 103 "FurPosts" "now" "I", Cond.fieldLink RX7 145 "FurPosts$Canoe" "daysToGo" "I", Cond.methodLink RX7 138 yX7_canoeAt, Cond.instanceMethod yX7_canoeAt, Cond.selects RX7 yX7_canoeAt yX7_canoeAt, Cond.initialized RX7, Cond.code yX7_canoeAt cX7_canoeAt 2 (some (.object "FurPosts$Canoe")), Cond.fieldLink RX7 23 "FurPosts" "canoes" "[LFurPosts$Canoe;", Cond.methodLink RX7 96 yX7_wayAt, Cond.instanceMethod yX7_wayAt, Cond.selects RX7 yX7_wayAt yX7_wayAt, Cond.code yX7_wayAt cX7_wayAt 2 (some (.object "FurPosts$Way")), Cond.fieldLink RX7 17 "FurPosts" "ways" "[LFurPosts$Way;", Cond.methodLink RX7 84 yX7_postAt, Cond.instanceMethod yX7_postAt, Cond.selects RX7 yX7_postAt yX7_postAt, Cond.code yX7_postAt cX7_postAt 2 (some (.object "FurPosts$Post")), Cond.fieldLink RX7 11 "FurPosts" "posts" "[LFurPosts$Post;", Cond.methodLink RX7 106 yX6_isOpenOn, Cond.instanceMethod yX6_isOpenOn, Cond.selects RX6 yX6_isOpenOn yX6_isOpenOn]
def wsX7_moveCanoe_r2 : List Cond := [Cond.initialized RX6, Cond.code yX6_isOpenOn cX6_isOpenOn 2 (some .boolean), Cond.fieldLink RX6 21 "FurPosts$Way" "firstOpen" "I", Cond.fieldLink RX6 24 "FurPosts$Way" "lastOpen" "I", Cond.static yX7_isWithin, Cond.code yX7_isWithin cX7_isWithin 3 (some .boolean), Cond.methodLink RX7 196 yX7_landCanoe, Cond.instanceMethod yX7_landCanoe, Cond.selects RX7 yX7_landCanoe yX7_landCanoe, Cond.code yX7_landCanoe cX7_landCanoe 4 none, Cond.fieldLink RX7 204 "FurPosts$Canoe" "dayCame" "I", Cond.fieldLink RX7 92 "FurPosts$Post" "stock" "[I", Cond.fieldLink RX7 148 "FurPosts$Canoe" "wares" "[I", Cond.methodLink RX7 200 yX7_landLetters, Cond.instanceMethod yX7_landLetters, Cond.selects RX7 yX7_landLetters yX7_landLetters, Cond.code yX7_landLetters cX7_landLetters 6 none, Cond.fieldLink RX7 165 "FurPosts" "letterCount" "I", Cond.fieldLink RX7 185 "FurPosts$Letter" "carrier" "I", Cond.fieldLink RX7 178 "FurPosts$Letter" "to" "I", Cond.fieldLink RX7 172 "FurPosts$Letter" "bag" "I", Cond.methodLink RX7 168 yX7_letterAt, Cond.instanceMethod yX7_letterAt, Cond.selects RX7 yX7_letterAt yX7_letterAt]
def wsX7_moveCanoe_r3 : List Cond := [Cond.code yX7_letterAt cX7_letterAt 2 (some (.object "FurPosts$Letter")), Cond.fieldLink RX7 29 "FurPosts" "letters" "[LFurPosts$Letter;", Cond.methodLink RX7 207 ⟨"FurPosts$Letter", "readAt", "(LFurPosts$Post;)V"⟩, Cond.sameMethod "FurPosts$Letter" "FurPosts$Letter" "readAt" "(LFurPosts$Post;)V", Cond.selects RX1 ⟨"FurPosts$Letter", "readAt", "(LFurPosts$Post;)V"⟩ yX1_readAt, Cond.instanceMethod yX1_readAt, Cond.initialized RX1, Cond.code yX1_readAt cX1_readAt 2 none, Cond.fieldLink RX1 7 "FurPosts$Debt" "hunter" "I", Cond.fieldLink RX1 22 "FurPosts$Post" "owed" "[I", Cond.fieldLink RX1 13 "FurPosts$Debt" "coins" "I", Cond.static yX7_isHunter, Cond.code yX7_isHunter cX7_isHunter 1 (some .boolean), Cond.selects RX3 ⟨"FurPosts$Letter", "readAt", "(LFurPosts$Post;)V"⟩ yX3_readAt, Cond.instanceMethod yX3_readAt, Cond.initialized RX3, Cond.code yX3_readAt cX3_readAt 2 none, Cond.fieldLink RX3 7 "FurPosts$Order" "ware" "I", Cond.fieldLink RX3 22 "FurPosts$Post" "prices" "[I", Cond.fieldLink RX3 13 "FurPosts$Order" "asked" "I", Cond.static yX7_isWare, Cond.code yX7_isWare cX7_isWare 1 (some .boolean), Cond.selects RX5 ⟨"FurPosts$Letter", "readAt", "(LFurPosts$Post;)V"⟩ yX5_readAt, Cond.instanceMethod yX5_readAt]
def wsX7_moveCanoe_r4 : List Cond := [Cond.initialized RX5, Cond.code yX5_readAt cX5_readAt 3 none, Cond.fieldLink RX5 19 "FurPosts$Report" "from" "I", Cond.sameField "FurPosts$Report" "FurPosts$Letter" "from" "I", Cond.fieldLink RX5 9 "FurPosts$Report" "day" "I", Cond.fieldLink RX5 28 "FurPosts$Post" "reports" "[LFurPosts$Report;", Cond.methodLink RX5 22 yX4_reportOf, Cond.instanceMethod yX4_reportOf, Cond.selects RX4 yX4_reportOf yX4_reportOf, Cond.initialized RX4, Cond.code yX4_reportOf cX4_reportOf 2 (some (.object "FurPosts$Report")), Cond.fieldLink RX4 23 "FurPosts$Post" "reports" "[LFurPosts$Report;"]
def wsX7_moveCanoe : List Cond := .code yX7_moveCanoe cX7_moveCanoe 5 none :: ((wsX7_moveCanoe_r1 ++ (wsX7_moveCanoe_r2 ++ (wsX7_moveCanoe_r3 ++ wsX7_moveCanoe_r4))) ++ wsX00 ++ wsX70 ++ wsX60 ++ wsX40 ++ wsX10 ++ wsX30 ++ wsX50)
def wsX7_go_r1 : List Cond := [Cond.fieldLink RX7 103 "FurPosts" "now" "I", Cond.fieldLink RX7 113 "FurPosts" "canoeCount" "I", Cond.methodLink RX7 66 yX7_isWithin, Cond.static yX7_isWithin, Cond.initialized RX7, Cond.code yX7_isWithin cX7_isWithin 3 (some .boolean), Cond.methodLink RX7 159 yX7_moveCanoe, Cond.instanceMethod yX7_moveCanoe, Cond.selects RX7 yX7_moveCanoe yX7_moveCanoe, Cond.code yX7_moveCanoe cX7_moveCanoe 5 none, Cond.fieldLink RX7 142 "FurPosts$Canoe" "state" "I", Cond.fieldLink RX7 193 "FurPosts$Canoe" "way" "I", Cond.fieldLink RX7 184 "FurPosts$Canoe" "to" "I", Cond.fieldLink RX7 145 "FurPosts$Canoe" "daysToGo" "I", Cond.methodLink RX7 138 yX7_canoeAt, Cond.instanceMethod yX7_canoeAt, Cond.selects RX7 yX7_canoeAt yX7_canoeAt, Cond.code yX7_canoeAt cX7_canoeAt 2 (some (.object "FurPosts$Canoe")), Cond.fieldLink RX7 23 "FurPosts" "canoes" "[LFurPosts$Canoe;", Cond.methodLink RX7 96 yX7_wayAt, Cond.instanceMethod yX7_wayAt, Cond.selects RX7 yX7_wayAt yX7_wayAt, Cond.code yX7_wayAt cX7_wayAt 2 (some (.object "FurPosts$Way")), Cond.fieldLink RX7 17 "FurPosts" "ways" "[LFurPosts$Way;"]
def wsX7_go_r2 : List Cond := [Cond.methodLink RX7 84 yX7_postAt, Cond.instanceMethod yX7_postAt, Cond.selects RX7 yX7_postAt yX7_postAt, Cond.code yX7_postAt cX7_postAt 2 (some (.object "FurPosts$Post")), Cond.fieldLink RX7 11 "FurPosts" "posts" "[LFurPosts$Post;", Cond.methodLink RX7 106 yX6_isOpenOn, Cond.instanceMethod yX6_isOpenOn, Cond.selects RX6 yX6_isOpenOn yX6_isOpenOn, Cond.initialized RX6, Cond.code yX6_isOpenOn cX6_isOpenOn 2 (some .boolean), Cond.fieldLink RX6 21 "FurPosts$Way" "firstOpen" "I", Cond.fieldLink RX6 24 "FurPosts$Way" "lastOpen" "I", Cond.methodLink RX7 196 yX7_landCanoe, Cond.instanceMethod yX7_landCanoe, Cond.selects RX7 yX7_landCanoe yX7_landCanoe, Cond.code yX7_landCanoe cX7_landCanoe 4 none, Cond.fieldLink RX7 204 "FurPosts$Canoe" "dayCame" "I", Cond.fieldLink RX7 92 "FurPosts$Post" "stock" "[I", Cond.fieldLink RX7 148 "FurPosts$Canoe" "wares" "[I", Cond.methodLink RX7 200 yX7_landLetters, Cond.instanceMethod yX7_landLetters, Cond.selects RX7 yX7_landLetters yX7_landLetters, Cond.code yX7_landLetters cX7_landLetters 6 none, Cond.fieldLink RX7 165 "FurPosts" "letterCount" "I"]
def wsX7_go_r3 : List Cond := [Cond.fieldLink RX7 185 "FurPosts$Letter" "carrier" "I", Cond.fieldLink RX7 178 "FurPosts$Letter" "to" "I", Cond.fieldLink RX7 172 "FurPosts$Letter" "bag" "I", Cond.methodLink RX7 168 yX7_letterAt, Cond.instanceMethod yX7_letterAt, Cond.selects RX7 yX7_letterAt yX7_letterAt, Cond.code yX7_letterAt cX7_letterAt 2 (some (.object "FurPosts$Letter")), Cond.fieldLink RX7 29 "FurPosts" "letters" "[LFurPosts$Letter;", Cond.methodLink RX7 207 ⟨"FurPosts$Letter", "readAt", "(LFurPosts$Post;)V"⟩, Cond.sameMethod "FurPosts$Letter" "FurPosts$Letter" "readAt" "(LFurPosts$Post;)V", Cond.selects RX1 ⟨"FurPosts$Letter", "readAt", "(LFurPosts$Post;)V"⟩ yX1_readAt, Cond.instanceMethod yX1_readAt, Cond.initialized RX1, Cond.code yX1_readAt cX1_readAt 2 none, Cond.fieldLink RX1 7 "FurPosts$Debt" "hunter" "I", Cond.fieldLink RX1 22 "FurPosts$Post" "owed" "[I", Cond.fieldLink RX1 13 "FurPosts$Debt" "coins" "I", Cond.static yX7_isHunter, Cond.code yX7_isHunter cX7_isHunter 1 (some .boolean), Cond.selects RX3 ⟨"FurPosts$Letter", "readAt", "(LFurPosts$Post;)V"⟩ yX3_readAt, Cond.instanceMethod yX3_readAt, Cond.initialized RX3, Cond.code yX3_readAt cX3_readAt 2 none, Cond.fieldLink RX3 7 "FurPosts$Order" "ware" "I"]
def wsX7_go_r4 : List Cond := [Cond.fieldLink RX3 22 "FurPosts$Post" "prices" "[I", Cond.fieldLink RX3 13 "FurPosts$Order" "asked" "I", Cond.static yX7_isWare, Cond.code yX7_isWare cX7_isWare 1 (some .boolean), Cond.selects RX5 ⟨"FurPosts$Letter", "readAt", "(LFurPosts$Post;)V"⟩ yX5_readAt, Cond.instanceMethod yX5_readAt, Cond.initialized RX5, Cond.code yX5_readAt cX5_readAt 3 none, Cond.fieldLink RX5 19 "FurPosts$Report" "from" "I", Cond.sameField "FurPosts$Report" "FurPosts$Letter" "from" "I", Cond.fieldLink RX5 9 "FurPosts$Report" "day" "I", Cond.fieldLink RX5 28 "FurPosts$Post" "reports" "[LFurPosts$Report;", Cond.methodLink RX5 22 yX4_reportOf, Cond.instanceMethod yX4_reportOf, Cond.selects RX4 yX4_reportOf yX4_reportOf, Cond.initialized RX4, Cond.code yX4_reportOf cX4_reportOf 2 (some (.object "FurPosts$Report")), Cond.fieldLink RX4 23 "FurPosts$Post" "reports" "[LFurPosts$Report;"]
def wsX7_go : List Cond := .code yX7_go cX7_go 4 (some .int) :: ((wsX7_go_r1 ++ (wsX7_go_r2 ++ (wsX7_go_r3 ++ wsX7_go_r4))) ++ wsX70 ++ wsX00 ++ wsX60 ++ wsX40 ++ wsX10 ++ wsX30 ++ wsX50)
def wsX7_isTrade : List Cond := .code yX7_isTrade cX7_isTrade 3 (some .boolean) :: ([.methodLink RX7 221 yX7_isHunter, .static yX7_isHunter, .initialized RX7, .code yX7_isHunter cX7_isHunter 1 (some .boolean), .methodLink RX7 88 yX7_isWare, .static yX7_isWare, .code yX7_isWare cX7_isWare 1 (some .boolean), .methodLink RX7 66 yX7_isWithin, .static yX7_isWithin, .code yX7_isWithin cX7_isWithin 3 (some .boolean)])
def wsX7_sell : List Cond := .code yX7_sell cX7_sell 7 (some .int) :: ([.fieldLink RX7 92 "FurPosts$Post" "stock" "[I", .fieldLink RX7 214 "FurPosts$Post" "owed" "[I", .fieldLink RX7 217 "FurPosts$Post" "prices" "[I", .constant RX7 95 (100000), .fieldLink RX7 41 "FurPosts" "tallies" "[[I", .methodLink RX7 84 yX7_postAt, .instanceMethod yX7_postAt, .selects RX7 yX7_postAt yX7_postAt, .initialized RX7, .code yX7_postAt cX7_postAt 2 (some (.object "FurPosts$Post")), .fieldLink RX7 11 "FurPosts" "posts" "[LFurPosts$Post;", .methodLink RX7 211 yX7_isTrade, .static yX7_isTrade, .code yX7_isTrade cX7_isTrade 3 (some .boolean), .methodLink RX7 221 yX7_isHunter, .static yX7_isHunter, .code yX7_isHunter cX7_isHunter 1 (some .boolean), .methodLink RX7 88 yX7_isWare, .static yX7_isWare, .code yX7_isWare cX7_isWare 1 (some .boolean), .methodLink RX7 66 yX7_isWithin, .static yX7_isWithin, .code yX7_isWithin cX7_isWithin 3 (some .boolean)] ++ wsX40 ++ wsX70)
def wsX7_buy : List Cond := .code yX7_buy cX7_buy 7 (some .int) :: ([.fieldLink RX7 92 "FurPosts$Post" "stock" "[I", .constant RX7 95 (100000), .fieldLink RX7 214 "FurPosts$Post" "owed" "[I", .fieldLink RX7 217 "FurPosts$Post" "prices" "[I", .constant RX7 220 (-100000), .fieldLink RX7 41 "FurPosts" "tallies" "[[I", .methodLink RX7 84 yX7_postAt, .instanceMethod yX7_postAt, .selects RX7 yX7_postAt yX7_postAt, .initialized RX7, .code yX7_postAt cX7_postAt 2 (some (.object "FurPosts$Post")), .fieldLink RX7 11 "FurPosts" "posts" "[LFurPosts$Post;", .methodLink RX7 211 yX7_isTrade, .static yX7_isTrade, .code yX7_isTrade cX7_isTrade 3 (some .boolean), .methodLink RX7 221 yX7_isHunter, .static yX7_isHunter, .code yX7_isHunter cX7_isHunter 1 (some .boolean), .methodLink RX7 88 yX7_isWare, .static yX7_isWare, .code yX7_isWare cX7_isWare 1 (some .boolean), .methodLink RX7 66 yX7_isWithin, .static yX7_isWithin, .code yX7_isWithin cX7_isWithin 3 (some .boolean)] ++ wsX40 ++ wsX70)
def wsX7_give : List Cond := .code yX7_give cX7_give 6 (some .int) :: ([.fieldLink RX7 92 "FurPosts$Post" "stock" "[I", .fieldLink RX7 41 "FurPosts" "tallies" "[[I", .methodLink RX7 84 yX7_postAt, .instanceMethod yX7_postAt, .selects RX7 yX7_postAt yX7_postAt, .initialized RX7, .code yX7_postAt cX7_postAt 2 (some (.object "FurPosts$Post")), .fieldLink RX7 11 "FurPosts" "posts" "[LFurPosts$Post;", .methodLink RX7 211 yX7_isTrade, .static yX7_isTrade, .code yX7_isTrade cX7_isTrade 3 (some .boolean), .methodLink RX7 221 yX7_isHunter, .static yX7_isHunter, .code yX7_isHunter cX7_isHunter 1 (some .boolean), .methodLink RX7 88 yX7_isWare, .static yX7_isWare, .code yX7_isWare cX7_isWare 1 (some .boolean), .methodLink RX7 66 yX7_isWithin, .static yX7_isWithin, .code yX7_isWithin cX7_isWithin 3 (some .boolean)] ++ wsX40 ++ wsX70)
def wsX7_owes : List Cond := .code yX7_owes cX7_owes 4 (some .int) :: ([.fieldLink RX7 214 "FurPosts$Post" "owed" "[I", .methodLink RX7 84 yX7_postAt, .instanceMethod yX7_postAt, .selects RX7 yX7_postAt yX7_postAt, .initialized RX7, .code yX7_postAt cX7_postAt 2 (some (.object "FurPosts$Post")), .fieldLink RX7 11 "FurPosts" "posts" "[LFurPosts$Post;", .methodLink RX7 221 yX7_isHunter, .static yX7_isHunter, .code yX7_isHunter cX7_isHunter 1 (some .boolean)] ++ wsX40 ++ wsX70)
def wsX7_price : List Cond := .code yX7_price cX7_price 4 (some .int) :: ([.fieldLink RX7 217 "FurPosts$Post" "prices" "[I", .methodLink RX7 84 yX7_postAt, .instanceMethod yX7_postAt, .selects RX7 yX7_postAt yX7_postAt, .initialized RX7, .code yX7_postAt cX7_postAt 2 (some (.object "FurPosts$Post")), .fieldLink RX7 11 "FurPosts" "posts" "[LFurPosts$Post;", .methodLink RX7 88 yX7_isWare, .static yX7_isWare, .code yX7_isWare cX7_isWare 1 (some .boolean)] ++ wsX40 ++ wsX70)
def wsX7_canWrite : List Cond := .code yX7_canWrite cX7_canWrite 3 (some .boolean) :: ([.fieldLink RX7 165 "FurPosts" "letterCount" "I", .methodLink RX7 59 yX7_areTwoPosts, .instanceMethod yX7_areTwoPosts, .selects RX7 yX7_areTwoPosts yX7_areTwoPosts, .initialized RX7, .code yX7_areTwoPosts cX7_areTwoPosts 3 (some .boolean), .methodLink RX7 84 yX7_postAt, .instanceMethod yX7_postAt, .selects RX7 yX7_postAt yX7_postAt, .code yX7_postAt cX7_postAt 2 (some (.object "FurPosts$Post")), .fieldLink RX7 11 "FurPosts" "posts" "[LFurPosts$Post;"] ++ wsX70)
def wsX7_putInBag : List Cond := .code yX7_putInBag cX7_putInBag 2 (some .int) :: ([.fieldLink RX7 165 "FurPosts" "letterCount" "I", .fieldLink RX7 29 "FurPosts" "letters" "[LFurPosts$Letter;"] ++ wsX70)
def wsX7_order_r1 : List Cond := [Cond.classLink RX7 227 RX3, Cond.instantiable RX3 6, Cond.initialized RX3, Cond.methodLink RX7 224 yX7_canWrite, Cond.instanceMethod yX7_canWrite, Cond.selects RX7 yX7_canWrite yX7_canWrite, Cond.initialized RX7, Cond.code yX7_canWrite cX7_canWrite 3 (some .boolean), Cond.fieldLink RX7 165 "FurPosts" "letterCount" "I", Cond.methodLink RX7 59 yX7_areTwoPosts, Cond.instanceMethod yX7_areTwoPosts, Cond.selects RX7 yX7_areTwoPosts yX7_areTwoPosts, Cond.code yX7_areTwoPosts cX7_areTwoPosts 3 (some .boolean), Cond.methodLink RX7 84 yX7_postAt, Cond.instanceMethod yX7_postAt, Cond.selects RX7 yX7_postAt yX7_postAt, Cond.code yX7_postAt cX7_postAt 2 (some (.object "FurPosts$Post")), Cond.fieldLink RX7 11 "FurPosts" "posts" "[LFurPosts$Post;", Cond.methodLink RX7 88 yX7_isWare, Cond.static yX7_isWare, Cond.code yX7_isWare cX7_isWare 1 (some .boolean), Cond.methodLink RX7 66 yX7_isWithin, Cond.static yX7_isWithin, Cond.code yX7_isWithin cX7_isWithin 3 (some .boolean)]
def wsX7_order_r2 : List Cond := [Cond.methodLink RX7 229 yX3_init, Cond.instanceMethod yX3_init, Cond.code yX3_init cX3_init 5 none, Cond.fieldLink RX3 7 "FurPosts$Order" "ware" "I", Cond.fieldLink RX3 13 "FurPosts$Order" "asked" "I", Cond.methodLink RX3 1 yX2_init, Cond.instanceMethod yX2_init, Cond.initialized RX2, Cond.code yX2_init cX2_init 3 none, Cond.methodLink RX2 3 objectInit, Cond.instanceMethod objectInit, Cond.code objectInit ⟨#[0xb1]⟩ 1 none, Cond.fieldLink RX2 9 "FurPosts$Letter" "carrier" "I", Cond.fieldLink RX2 15 "FurPosts$Letter" "from" "I", Cond.fieldLink RX2 18 "FurPosts$Letter" "to" "I", Cond.fieldLink RX2 21 "FurPosts$Letter" "bag" "I", Cond.methodLink RX7 232 yX7_putInBag, Cond.instanceMethod yX7_putInBag, Cond.selects RX7 yX7_putInBag yX7_putInBag, Cond.code yX7_putInBag cX7_putInBag 2 (some .int), Cond.fieldLink RX7 29 "FurPosts" "letters" "[LFurPosts$Letter;"]
def wsX7_order : List Cond := .code yX7_order cX7_order 5 (some .int) :: ((wsX7_order_r1 ++ wsX7_order_r2) ++ wsX30 ++ wsX70 ++ wsX10 ++ wsX50)
def wsX7_debt_r1 : List Cond := [Cond.fieldLink RX7 214 "FurPosts$Post" "owed" "[I", Cond.classLink RX7 188 RX1, Cond.instantiable RX1 6, Cond.initialized RX1, Cond.methodLink RX7 84 yX7_postAt, Cond.instanceMethod yX7_postAt, Cond.selects RX7 yX7_postAt yX7_postAt, Cond.initialized RX7, Cond.code yX7_postAt cX7_postAt 2 (some (.object "FurPosts$Post")), Cond.fieldLink RX7 11 "FurPosts" "posts" "[LFurPosts$Post;", Cond.methodLink RX7 224 yX7_canWrite, Cond.instanceMethod yX7_canWrite, Cond.selects RX7 yX7_canWrite yX7_canWrite, Cond.code yX7_canWrite cX7_canWrite 3 (some .boolean), Cond.fieldLink RX7 165 "FurPosts" "letterCount" "I", Cond.methodLink RX7 59 yX7_areTwoPosts, Cond.instanceMethod yX7_areTwoPosts, Cond.selects RX7 yX7_areTwoPosts yX7_areTwoPosts, Cond.code yX7_areTwoPosts cX7_areTwoPosts 3 (some .boolean), Cond.methodLink RX7 221 yX7_isHunter, Cond.static yX7_isHunter, Cond.code yX7_isHunter cX7_isHunter 1 (some .boolean), Cond.methodLink RX7 236 yX1_init, Cond.instanceMethod yX1_init]
def wsX7_debt_r2 : List Cond := [Cond.code yX1_init cX1_init 5 none, Cond.fieldLink RX1 7 "FurPosts$Debt" "hunter" "I", Cond.fieldLink RX1 13 "FurPosts$Debt" "coins" "I", Cond.methodLink RX1 1 yX2_init, Cond.instanceMethod yX2_init, Cond.initialized RX2, Cond.code yX2_init cX2_init 3 none, Cond.methodLink RX2 3 objectInit, Cond.instanceMethod objectInit, Cond.code objectInit ⟨#[0xb1]⟩ 1 none, Cond.fieldLink RX2 9 "FurPosts$Letter" "carrier" "I", Cond.fieldLink RX2 15 "FurPosts$Letter" "from" "I", Cond.fieldLink RX2 18 "FurPosts$Letter" "to" "I", Cond.fieldLink RX2 21 "FurPosts$Letter" "bag" "I", Cond.methodLink RX7 232 yX7_putInBag, Cond.instanceMethod yX7_putInBag, Cond.selects RX7 yX7_putInBag yX7_putInBag, Cond.code yX7_putInBag cX7_putInBag 2 (some .int), Cond.fieldLink RX7 29 "FurPosts" "letters" "[LFurPosts$Letter;"]
def wsX7_debt : List Cond := .code yX7_debt cX7_debt 6 (some .int) :: ((wsX7_debt_r1 ++ wsX7_debt_r2) ++ wsX40 ++ wsX10 ++ wsX70 ++ wsX30 ++ wsX50)
def wsX7_report_r1 : List Cond := [Cond.classLink RX7 237 RX5, Cond.instantiable RX5 6, Cond.initialized RX5, Cond.fieldLink RX7 103 "FurPosts" "now" "I", Cond.fieldLink RX7 92 "FurPosts$Post" "stock" "[I", Cond.methodLink RX7 123 ⟨"[I", "clone", "()Ljava/lang/Object;"⟩, Cond.sameMethod "[I" "java/lang/Object" "clone" "()Ljava/lang/Object;", Cond.native ⟨"java/lang/Object", "clone", "()Ljava/lang/Object;"⟩, Cond.instanceMethod ⟨"java/lang/Object", "clone", "()Ljava/lang/Object;"⟩, Cond.selects "[I" ⟨"[I", "clone", "()Ljava/lang/Object;"⟩ ⟨"java/lang/Object", "clone", "()Ljava/lang/Object;"⟩, Cond.classLink RX7 124 "[I", Cond.methodLink RX7 84 yX7_postAt, Cond.instanceMethod yX7_postAt, Cond.selects RX7 yX7_postAt yX7_postAt, Cond.initialized RX7, Cond.code yX7_postAt cX7_postAt 2 (some (.object "FurPosts$Post")), Cond.fieldLink RX7 11 "FurPosts" "posts" "[LFurPosts$Post;", Cond.methodLink RX7 224 yX7_canWrite, Cond.instanceMethod yX7_canWrite, Cond.selects RX7 yX7_canWrite yX7_canWrite, Cond.code yX7_canWrite cX7_canWrite 3 (some .boolean), Cond.fieldLink RX7 165 "FurPosts" "letterCount" "I", Cond.methodLink RX7 59 yX7_areTwoPosts, Cond.instanceMethod yX7_areTwoPosts]
def wsX7_report_r2 : List Cond := [Cond.selects RX7 yX7_areTwoPosts yX7_areTwoPosts, Cond.code yX7_areTwoPosts cX7_areTwoPosts 3 (some .boolean), Cond.methodLink RX7 239 yX5_init, Cond.instanceMethod yX5_init, Cond.code yX5_init cX5_init 5 none, Cond.fieldLink RX5 9 "FurPosts$Report" "day" "I", Cond.fieldLink RX5 15 "FurPosts$Report" "stock" "[I", Cond.methodLink RX5 3 yX2_init, Cond.instanceMethod yX2_init, Cond.initialized RX2, Cond.code yX2_init cX2_init 3 none, Cond.methodLink RX2 3 objectInit, Cond.instanceMethod objectInit, Cond.code objectInit ⟨#[0xb1]⟩ 1 none, Cond.fieldLink RX2 9 "FurPosts$Letter" "carrier" "I", Cond.fieldLink RX2 15 "FurPosts$Letter" "from" "I", Cond.fieldLink RX2 18 "FurPosts$Letter" "to" "I", Cond.fieldLink RX2 21 "FurPosts$Letter" "bag" "I", Cond.methodLink RX7 232 yX7_putInBag, Cond.instanceMethod yX7_putInBag, Cond.selects RX7 yX7_putInBag yX7_putInBag, Cond.code yX7_putInBag cX7_putInBag 2 (some .int), Cond.fieldLink RX7 29 "FurPosts" "letters" "[LFurPosts$Letter;"]
def wsX7_report : List Cond := .code yX7_report cX7_report 4 (some .int) :: ((wsX7_report_r1 ++ wsX7_report_r2) ++ wsX50 ++ wsX70 ++ wsX40 ++ wsX10 ++ wsX30)
def wsX7_known : List Cond := .code yX7_known cX7_known 6 (some .int) :: ([.fieldLink RX7 92 "FurPosts$Post" "stock" "[I", .fieldLink RX7 246 "FurPosts$Report" "stock" "[I", .methodLink RX7 84 yX7_postAt, .instanceMethod yX7_postAt, .selects RX7 yX7_postAt yX7_postAt, .initialized RX7, .code yX7_postAt cX7_postAt 2 (some (.object "FurPosts$Post")), .fieldLink RX7 11 "FurPosts" "posts" "[LFurPosts$Post;", .methodLink RX7 88 yX7_isWare, .static yX7_isWare, .code yX7_isWare cX7_isWare 1 (some .boolean), .methodLink RX7 242 yX4_reportOf, .instanceMethod yX4_reportOf, .selects RX4 yX4_reportOf yX4_reportOf, .initialized RX4, .code yX4_reportOf cX4_reportOf 2 (some (.object "FurPosts$Report")), .fieldLink RX4 23 "FurPosts$Post" "reports" "[LFurPosts$Report;"] ++ wsX40 ++ wsX50 ++ wsX70)
def wsX7_knownDay : List Cond := .code yX7_knownDay cX7_knownDay 5 (some .int) :: ([.fieldLink RX7 103 "FurPosts" "now" "I", .fieldLink RX7 247 "FurPosts$Report" "day" "I", .methodLink RX7 84 yX7_postAt, .instanceMethod yX7_postAt, .selects RX7 yX7_postAt yX7_postAt, .initialized RX7, .code yX7_postAt cX7_postAt 2 (some (.object "FurPosts$Post")), .fieldLink RX7 11 "FurPosts" "posts" "[LFurPosts$Post;", .methodLink RX7 242 yX4_reportOf, .instanceMethod yX4_reportOf, .selects RX4 yX4_reportOf yX4_reportOf, .initialized RX4, .code yX4_reportOf cX4_reportOf 2 (some (.object "FurPosts$Report")), .fieldLink RX4 23 "FurPosts$Post" "reports" "[LFurPosts$Report;"] ++ wsX70 ++ wsX50 ++ wsX40)
def wsX7_want : List Cond := .code yX7_want cX7_want 4 (some .boolean) :: ([.fieldLink RX7 38 "FurPosts" "wants" "[[I", .methodLink RX7 88 yX7_isWare, .static yX7_isWare, .initialized RX7, .code yX7_isWare cX7_isWare 1 (some .boolean), .methodLink RX7 66 yX7_isWithin, .static yX7_isWithin, .code yX7_isWithin cX7_isWithin 3 (some .boolean)] ++ wsX70)
def wsX7_areWantsRight : List Cond := .code yX7_areWantsRight cX7_areWantsRight 4 (some .boolean) :: ([.fieldLink RX7 38 "FurPosts" "wants" "[[I"] ++ wsX70)
def wsX7_cost : List Cond := .code yX7_cost cX7_cost 11 (some .int) :: ([.fieldLink RX7 92 "FurPosts$Post" "stock" "[I", .methodLink RX7 78 Lib.Math.min.name, .static Lib.Math.min.name, .initialized "java/lang/Math", .code Lib.Math.min.name Lib.Math.min.code 2 (some .int), .fieldLink RX7 38 "FurPosts" "wants" "[[I", .methodLink RX7 84 yX7_postAt, .instanceMethod yX7_postAt, .selects RX7 yX7_postAt yX7_postAt, .initialized RX7, .code yX7_postAt cX7_postAt 2 (some (.object "FurPosts$Post")), .fieldLink RX7 11 "FurPosts" "posts" "[LFurPosts$Post;", .methodLink RX7 88 yX7_isWare, .static yX7_isWare, .code yX7_isWare cX7_isWare 1 (some .boolean), .methodLink RX7 254 yX7_areWantsRight, .instanceMethod yX7_areWantsRight, .selects RX7 yX7_areWantsRight yX7_areWantsRight, .code yX7_areWantsRight cX7_areWantsRight 4 (some .boolean), .methodLink RX7 66 yX7_isWithin, .static yX7_isWithin, .code yX7_isWithin cX7_isWithin 3 (some .boolean)] ++ wsX40 ++ wsX70)
def wsX7_indent_r1 : List Cond := [Cond.methodLink RX7 250 yX7_cost, Cond.instanceMethod yX7_cost, Cond.selects RX7 yX7_cost yX7_cost, Cond.initialized RX7, Cond.code yX7_cost cX7_cost 11 (some .int), Cond.fieldLink RX7 92 "FurPosts$Post" "stock" "[I", Cond.methodLink RX7 78 Lib.Math.min.name, Cond.static Lib.Math.min.name, Cond.initialized "java/lang/Math", Cond.code Lib.Math.min.name Lib.Math.min.code 2 (some .int), Cond.fieldLink RX7 38 "FurPosts" "wants" "[[I", Cond.methodLink RX7 84 yX7_postAt, Cond.instanceMethod yX7_postAt, Cond.selects RX7 yX7_postAt yX7_postAt, Cond.code yX7_postAt cX7_postAt 2 (some (.object "FurPosts$Post")), Cond.fieldLink RX7 11 "FurPosts" "posts" "[LFurPosts$Post;", Cond.methodLink RX7 88 yX7_isWare, Cond.static yX7_isWare, Cond.code yX7_isWare cX7_isWare 1 (some .boolean), Cond.methodLink RX7 254 yX7_areWantsRight, Cond.instanceMethod yX7_areWantsRight, Cond.selects RX7 yX7_areWantsRight yX7_areWantsRight, Cond.code yX7_areWantsRight cX7_areWantsRight 4 (some .boolean), Cond.methodLink RX7 66 yX7_isWithin]
def wsX7_indent_r2 : List Cond := [Cond.static yX7_isWithin, Cond.code yX7_isWithin cX7_isWithin 3 (some .boolean)]
def wsX7_indent : List Cond := .code yX7_indent cX7_indent 9 (some .int) :: ((wsX7_indent_r1 ++ wsX7_indent_r2) ++ wsX40 ++ wsX70)
def wsX7_quarrel_r1 : List Cond := [Cond.fieldLink RX7 113 "FurPosts" "canoeCount" "I", Cond.methodLink RX7 59 yX7_areTwoPosts, Cond.instanceMethod yX7_areTwoPosts, Cond.selects RX7 yX7_areTwoPosts yX7_areTwoPosts, Cond.initialized RX7, Cond.code yX7_areTwoPosts cX7_areTwoPosts 3 (some .boolean), Cond.methodLink RX7 84 yX7_postAt, Cond.instanceMethod yX7_postAt, Cond.selects RX7 yX7_postAt yX7_postAt, Cond.code yX7_postAt cX7_postAt 2 (some (.object "FurPosts$Post")), Cond.fieldLink RX7 11 "FurPosts" "posts" "[LFurPosts$Post;", Cond.methodLink RX7 138 yX7_canoeAt, Cond.instanceMethod yX7_canoeAt, Cond.selects RX7 yX7_canoeAt yX7_canoeAt, Cond.code yX7_canoeAt cX7_canoeAt 2 (some (.object "FurPosts$Canoe")), Cond.fieldLink RX7 23 "FurPosts" "canoes" "[LFurPosts$Canoe;", Cond.methodLink RX7 257 yX0_isBetween, Cond.instanceMethod yX0_isBetween, Cond.selects RX0 yX0_isBetween yX0_isBetween, Cond.initialized RX0, Cond.code yX0_isBetween cX0_isBetween 3 (some .boolean), Cond.fieldLink RX0 18 "FurPosts$Canoe" "from" "I", Cond.fieldLink RX0 21 "FurPosts$Canoe" "to" "I", Cond.methodLink RX7 260 yX0_partsBooks]
def wsX7_quarrel_r2 : List Cond := [Cond.instanceMethod yX0_partsBooks, Cond.selects RX0 yX0_partsBooks yX0_partsBooks, Cond.code yX0_partsBooks cX0_partsBooks 1 (some .boolean), Cond.fieldLink RX0 15 "FurPosts$Canoe" "state" "I", Cond.fieldLink RX0 45 "FurPosts$Canoe" "spoilt" "Z"]
def wsX7_quarrel : List Cond := .code yX7_quarrel cX7_quarrel 5 (some .int) :: ((wsX7_quarrel_r1 ++ wsX7_quarrel_r2) ++ wsX70 ++ wsX00)
def wsX7_canoe : List Cond := .code yX7_canoe cX7_canoe 4 (some .int) :: ([.fieldLink RX7 148 "FurPosts$Canoe" "wares" "[I", .fieldLink RX7 264 "FurPosts$Canoe" "waresSent" "[I", .fieldLink RX7 175 "FurPosts$Canoe" "from" "I", .fieldLink RX7 184 "FurPosts$Canoe" "to" "I", .fieldLink RX7 193 "FurPosts$Canoe" "way" "I", .fieldLink RX7 145 "FurPosts$Canoe" "daysToGo" "I", .fieldLink RX7 142 "FurPosts$Canoe" "state" "I", .fieldLink RX7 267 "FurPosts$Canoe" "daySent" "I", .fieldLink RX7 204 "FurPosts$Canoe" "dayCame" "I", .fieldLink RX7 135 "FurPosts$Canoe" "lettersSent" "I", .methodLink RX7 138 yX7_canoeAt, .instanceMethod yX7_canoeAt, .selects RX7 yX7_canoeAt yX7_canoeAt, .initialized RX7, .code yX7_canoeAt cX7_canoeAt 2 (some (.object "FurPosts$Canoe")), .fieldLink RX7 23 "FurPosts" "canoes" "[LFurPosts$Canoe;", .methodLink RX7 88 yX7_isWare, .static yX7_isWare, .code yX7_isWare cX7_isWare 1 (some .boolean)] ++ wsX00 ++ wsX70)
def wsX7_countBag : List Cond := .code yX7_countBag cX7_countBag 5 (some .int) :: ([.fieldLink RX7 165 "FurPosts" "letterCount" "I", .fieldLink RX7 172 "FurPosts$Letter" "bag" "I", .methodLink RX7 168 yX7_letterAt, .instanceMethod yX7_letterAt, .selects RX7 yX7_letterAt yX7_letterAt, .initialized RX7, .code yX7_letterAt cX7_letterAt 2 (some (.object "FurPosts$Letter")), .fieldLink RX7 29 "FurPosts" "letters" "[LFurPosts$Letter;"] ++ wsX70 ++ wsX10 ++ wsX30 ++ wsX50)
def wsX7_told_r1 : List Cond := [Cond.fieldLink RX7 92 "FurPosts$Post" "stock" "[I", Cond.methodLink RX7 84 yX7_postAt, Cond.instanceMethod yX7_postAt, Cond.selects RX7 yX7_postAt yX7_postAt, Cond.initialized RX7, Cond.code yX7_postAt cX7_postAt 2 (some (.object "FurPosts$Post")), Cond.fieldLink RX7 11 "FurPosts" "posts" "[LFurPosts$Post;", Cond.methodLink RX7 88 yX7_isWare, Cond.static yX7_isWare, Cond.code yX7_isWare cX7_isWare 1 (some .boolean), Cond.methodLink RX7 270 yX7_countBag, Cond.instanceMethod yX7_countBag, Cond.selects RX7 yX7_countBag yX7_countBag, Cond.code yX7_countBag cX7_countBag 5 (some .int), Cond.fieldLink RX7 165 "FurPosts" "letterCount" "I", Cond.fieldLink RX7 172 "FurPosts$Letter" "bag" "I", Cond.methodLink RX7 168 yX7_letterAt, Cond.instanceMethod yX7_letterAt, Cond.selects RX7 yX7_letterAt yX7_letterAt, Cond.code yX7_letterAt cX7_letterAt 2 (some (.object "FurPosts$Letter")), Cond.fieldLink RX7 29 "FurPosts" "letters" "[LFurPosts$Letter;", Cond.methodLink RX7 273 yX4_owedByAll, Cond.instanceMethod yX4_owedByAll, Cond.selects RX4 yX4_owedByAll yX4_owedByAll]
def wsX7_told_r2 : List Cond := [Cond.initialized RX4, Cond.code yX4_owedByAll cX4_owedByAll 3 (some .int), Cond.fieldLink RX4 18 "FurPosts$Post" "owed" "[I"]
def wsX7_told : List Cond := .code yX7_told cX7_told 4 (some .int) :: ((wsX7_told_r1 ++ wsX7_told_r2) ++ wsX40 ++ wsX70 ++ wsX10 ++ wsX30 ++ wsX50)
def wsX7_countOfAll : List Cond := .code yX7_countOfAll cX7_countOfAll 2 (some .int) :: ([.fieldLink RX7 103 "FurPosts" "now" "I", .fieldLink RX7 54 "FurPosts" "postCount" "I", .fieldLink RX7 63 "FurPosts" "wayCount" "I", .fieldLink RX7 113 "FurPosts" "canoeCount" "I", .fieldLink RX7 165 "FurPosts" "letterCount" "I", .fieldLink RX7 190 "FurPosts" "debtsLost" "I"] ++ wsX70)
def wsX7_count : List Cond := .code yX7_count cX7_count 3 (some .int) :: ([.fieldLink RX7 41 "FurPosts" "tallies" "[[I", .methodLink RX7 277 yX7_countOfAll, .instanceMethod yX7_countOfAll, .selects RX7 yX7_countOfAll yX7_countOfAll, .initialized RX7, .code yX7_countOfAll cX7_countOfAll 2 (some .int), .fieldLink RX7 103 "FurPosts" "now" "I", .fieldLink RX7 54 "FurPosts" "postCount" "I", .fieldLink RX7 63 "FurPosts" "wayCount" "I", .fieldLink RX7 113 "FurPosts" "canoeCount" "I", .fieldLink RX7 165 "FurPosts" "letterCount" "I", .fieldLink RX7 190 "FurPosts" "debtsLost" "I", .methodLink RX7 88 yX7_isWare, .static yX7_isWare, .code yX7_isWare cX7_isWare 1 (some .boolean), .methodLink RX7 66 yX7_isWithin, .static yX7_isWithin, .code yX7_isWithin cX7_isWithin 3 (some .boolean)] ++ wsX70)
def wsX8_init_r1 : List Cond := [Cond.methodLink RX8 1 objectInit, Cond.instanceMethod objectInit, Cond.code objectInit ⟨#[0xb1]⟩ 1 none, Cond.arrayClass .int, Cond.fieldLink RX8 9 "FurPostsModel" "store" "[I", Cond.fieldLink RX8 13 "FurPostsModel" "price" "[I", Cond.fieldLink RX8 16 "FurPostsModel" "owes" "[I", Cond.fieldLink RX8 19 "FurPostsModel" "wayA" "[I", Cond.fieldLink RX8 22 "FurPostsModel" "wayB" "[I", Cond.fieldLink RX8 25 "FurPostsModel" "wayLong" "[I", Cond.fieldLink RX8 28 "FurPostsModel" "opens" "[I", Cond.fieldLink RX8 31 "FurPostsModel" "shuts" "[I", Cond.fieldLink RX8 34 "FurPostsModel" "bears" "[I", Cond.fieldLink RX8 37 "FurPostsModel" "loaded" "[I", Cond.fieldLink RX8 40 "FurPostsModel" "from" "[I", Cond.fieldLink RX8 43 "FurPostsModel" "to" "[I", Cond.fieldLink RX8 46 "FurPostsModel" "wayOf" "[I", Cond.fieldLink RX8 49 "FurPostsModel" "toGo" "[I", Cond.fieldLink RX8 52 "FurPostsModel" "state" "[I", Cond.fieldLink RX8 55 "FurPostsModel" "sentOn" "[I", Cond.fieldLink RX8 58 "FurPostsModel" "cameOn" "[I", Cond.fieldLink RX8 61 "FurPostsModel" "withLetters" "[I", Cond.fieldLink RX8 64 "FurPostsModel" "has" "[I", Cond.fieldLink RX8 67 "FurPostsModel" "sent" "[I"]
def wsX8_init_r2 : List Cond := [Cond.arrayClass .boolean, Cond.fieldLink RX8 70 "FurPostsModel" "isOther" "[Z", Cond.fieldLink RX8 74 "FurPostsModel" "letterKind" "[I", Cond.fieldLink RX8 77 "FurPostsModel" "letterTo" "[I", Cond.fieldLink RX8 80 "FurPostsModel" "letterAt" "[I", Cond.fieldLink RX8 83 "FurPostsModel" "letterOne" "[I", Cond.fieldLink RX8 86 "FurPostsModel" "letterTwo" "[I", Cond.fieldLink RX8 89 "FurPostsModel" "letterStore" "[I", Cond.fieldLink RX8 92 "FurPostsModel" "reported" "[I", Cond.fieldLink RX8 95 "FurPostsModel" "parts" "[I", Cond.fieldLink RX8 98 "FurPostsModel" "sums" "[I", Cond.fieldLink RX8 101 "FurPostsModel" "far" "[I"]
def wsX8_init : List Cond := .code yX8_init cX8_init 2 none :: ((wsX8_init_r1 ++ wsX8_init_r2) ++ wsX80)
def wsX8_in : List Cond := .code yX8_in cX8_in 3 (some .boolean) :: ([])
def wsX8_isPost : List Cond := .code yX8_isPost cX8_isPost 2 (some .boolean) :: ([.fieldLink RX8 104 "FurPostsModel" "posts" "I", .methodLink RX8 108 yX8_in, .static yX8_in, .initialized RX8, .code yX8_in cX8_in 3 (some .boolean)] ++ wsX80)
def wsX8_isWare : List Cond := .code yX8_isWare cX8_isWare 1 (some .boolean) :: ([.methodLink RX8 108 yX8_in, .static yX8_in, .initialized RX8, .code yX8_in cX8_in 3 (some .boolean)])
def wsX8_isCanoe : List Cond := .code yX8_isCanoe cX8_isCanoe 2 (some .boolean) :: ([.fieldLink RX8 112 "FurPostsModel" "canoes" "I", .methodLink RX8 108 yX8_in, .static yX8_in, .initialized RX8, .code yX8_in cX8_in 3 (some .boolean)] ++ wsX80)
def wsX8_post : List Cond := .code yX8_post cX8_post 1 (some .int) :: ([.fieldLink RX8 104 "FurPostsModel" "posts" "I"] ++ wsX80)
def wsX8_between : List Cond := .code yX8_between cX8_between 4 (some .int) :: ([.fieldLink RX8 115 "FurPostsModel" "ways" "I", .fieldLink RX8 19 "FurPostsModel" "wayA" "[I", .fieldLink RX8 22 "FurPostsModel" "wayB" "[I"] ++ wsX80)
def wsX8_way : List Cond := .code yX8_way cX8_way 8 (some .int) :: ([.constant RX8 118 (1000000), .fieldLink RX8 115 "FurPostsModel" "ways" "I", .fieldLink RX8 19 "FurPostsModel" "wayA" "[I", .fieldLink RX8 22 "FurPostsModel" "wayB" "[I", .fieldLink RX8 25 "FurPostsModel" "wayLong" "[I", .fieldLink RX8 28 "FurPostsModel" "opens" "[I", .fieldLink RX8 31 "FurPostsModel" "shuts" "[I", .fieldLink RX8 34 "FurPostsModel" "bears" "[I", .methodLink RX8 108 yX8_in, .static yX8_in, .initialized RX8, .code yX8_in cX8_in 3 (some .boolean), .methodLink RX8 119 yX8_isPost, .instanceMethod yX8_isPost, .selects RX8 yX8_isPost yX8_isPost, .code yX8_isPost cX8_isPost 2 (some .boolean), .fieldLink RX8 104 "FurPostsModel" "posts" "I", .methodLink RX8 123 yX8_between, .instanceMethod yX8_between, .selects RX8 yX8_between yX8_between, .code yX8_between cX8_between 4 (some .int)] ++ wsX80)
def wsX8_isOpen : List Cond := .code yX8_isOpen cX8_isOpen 3 (some .boolean) :: ([.fieldLink RX8 28 "FurPostsModel" "opens" "[I", .fieldLink RX8 31 "FurPostsModel" "shuts" "[I", .methodLink RX8 108 yX8_in, .static yX8_in, .initialized RX8, .code yX8_in cX8_in 3 (some .boolean)] ++ wsX80)
def wsX8_stored : List Cond := .code yX8_stored cX8_stored 3 (some .int) :: ([.fieldLink RX8 9 "FurPostsModel" "store" "[I"] ++ wsX80)
def wsX8_sums : List Cond := .code yX8_sums cX8_sums 4 none :: ([.fieldLink RX8 98 "FurPostsModel" "sums" "[I"] ++ wsX80)
def wsX8_store : List Cond := .code yX8_store cX8_store 4 (some .int) :: ([.constant RX8 133 (100000), .fieldLink RX8 9 "FurPostsModel" "store" "[I", .methodLink RX8 119 yX8_isPost, .instanceMethod yX8_isPost, .selects RX8 yX8_isPost yX8_isPost, .initialized RX8, .code yX8_isPost cX8_isPost 2 (some .boolean), .fieldLink RX8 104 "FurPostsModel" "posts" "I", .methodLink RX8 108 yX8_in, .static yX8_in, .code yX8_in cX8_in 3 (some .boolean), .methodLink RX8 127 yX8_isWare, .static yX8_isWare, .code yX8_isWare cX8_isWare 1 (some .boolean), .methodLink RX8 130 yX8_stored, .instanceMethod yX8_stored, .selects RX8 yX8_stored yX8_stored, .code yX8_stored cX8_stored 3 (some .int), .methodLink RX8 134 yX8_sums, .instanceMethod yX8_sums, .selects RX8 yX8_sums yX8_sums, .code yX8_sums cX8_sums 4 none, .fieldLink RX8 98 "FurPostsModel" "sums" "[I"] ++ wsX80)
def wsX8_load : List Cond := .code yX8_load cX8_load 3 (some .boolean) :: ([.fieldLink RX8 37 "FurPostsModel" "loaded" "[I", .methodLink RX8 127 yX8_isWare, .static yX8_isWare, .initialized RX8, .code yX8_isWare cX8_isWare 1 (some .boolean), .methodLink RX8 108 yX8_in, .static yX8_in, .code yX8_in cX8_in 3 (some .boolean)] ++ wsX80)
def wsX8_next : List Cond := .code yX8_next cX8_next 5 (some .int) :: ([.fieldLink RX8 101 "FurPostsModel" "far" "[I", .fieldLink RX8 115 "FurPostsModel" "ways" "I", .fieldLink RX8 19 "FurPostsModel" "wayA" "[I", .fieldLink RX8 22 "FurPostsModel" "wayB" "[I", .fieldLink RX8 104 "FurPostsModel" "posts" "I", .methodLink RX8 119 yX8_isPost, .instanceMethod yX8_isPost, .selects RX8 yX8_isPost yX8_isPost, .initialized RX8, .code yX8_isPost cX8_isPost 2 (some .boolean), .methodLink RX8 108 yX8_in, .static yX8_in, .code yX8_in cX8_in 3 (some .boolean), .methodLink RX8 123 yX8_between, .instanceMethod yX8_between, .selects RX8 yX8_between yX8_between, .code yX8_between cX8_between 4 (some .int)] ++ wsX80)
def wsX8_send_r1 : List Cond := [Cond.fieldLink RX8 115 "FurPostsModel" "ways" "I", Cond.fieldLink RX8 19 "FurPostsModel" "wayA" "[I", Cond.fieldLink RX8 22 "FurPostsModel" "wayB" "[I", Cond.fieldLink RX8 37 "FurPostsModel" "loaded" "[I", Cond.fieldLink RX8 137 "FurPostsModel" "now" "I", Cond.fieldLink RX8 34 "FurPostsModel" "bears" "[I", Cond.fieldLink RX8 112 "FurPostsModel" "canoes" "I", Cond.fieldLink RX8 40 "FurPostsModel" "from" "[I", Cond.fieldLink RX8 43 "FurPostsModel" "to" "[I", Cond.fieldLink RX8 46 "FurPostsModel" "wayOf" "[I", Cond.fieldLink RX8 49 "FurPostsModel" "toGo" "[I", Cond.fieldLink RX8 25 "FurPostsModel" "wayLong" "[I", Cond.fieldLink RX8 55 "FurPostsModel" "sentOn" "[I", Cond.fieldLink RX8 58 "FurPostsModel" "cameOn" "[I", Cond.fieldLink RX8 9 "FurPostsModel" "store" "[I", Cond.fieldLink RX8 64 "FurPostsModel" "has" "[I", Cond.fieldLink RX8 67 "FurPostsModel" "sent" "[I", Cond.fieldLink RX8 144 "FurPostsModel" "letters" "I", Cond.fieldLink RX8 80 "FurPostsModel" "letterAt" "[I", Cond.fieldLink RX8 77 "FurPostsModel" "letterTo" "[I", Cond.fieldLink RX8 61 "FurPostsModel" "withLetters" "[I", Cond.methodLink RX8 119 yX8_isPost, Cond.instanceMethod yX8_isPost, Cond.selects RX8 yX8_isPost yX8_isPost]
def wsX8_send_r2 : List Cond := [Cond.initialized RX8, Cond.code yX8_isPost cX8_isPost 2 (some .boolean), Cond.fieldLink RX8 104 "FurPostsModel" "posts" "I", Cond.methodLink RX8 108 yX8_in, Cond.static yX8_in, Cond.code yX8_in cX8_in 3 (some .boolean), Cond.methodLink RX8 130 yX8_stored, Cond.instanceMethod yX8_stored, Cond.selects RX8 yX8_stored yX8_stored, Cond.code yX8_stored cX8_stored 3 (some .int), Cond.methodLink RX8 140 yX8_isOpen, Cond.instanceMethod yX8_isOpen, Cond.selects RX8 yX8_isOpen yX8_isOpen, Cond.code yX8_isOpen cX8_isOpen 3 (some .boolean), Cond.fieldLink RX8 28 "FurPostsModel" "opens" "[I", Cond.fieldLink RX8 31 "FurPostsModel" "shuts" "[I", Cond.methodLink RX8 147 yX8_next, Cond.instanceMethod yX8_next, Cond.selects RX8 yX8_next yX8_next, Cond.code yX8_next cX8_next 5 (some .int), Cond.fieldLink RX8 101 "FurPostsModel" "far" "[I", Cond.methodLink RX8 123 yX8_between, Cond.instanceMethod yX8_between, Cond.selects RX8 yX8_between yX8_between]
def wsX8_send_r3 : List Cond := [Cond.code yX8_between cX8_between 4 (some .int)]
def wsX8_send : List Cond := .code yX8_send cX8_send 6 (some .int) :: ((wsX8_send_r1 ++ (wsX8_send_r2 ++ wsX8_send_r3)) ++ wsX80)
def wsX8_isAway : List Cond := .code yX8_isAway cX8_isAway 2 (some .boolean) :: ([.fieldLink RX8 52 "FurPostsModel" "state" "[I", .methodLink RX8 150 yX8_isCanoe, .instanceMethod yX8_isCanoe, .selects RX8 yX8_isCanoe yX8_isCanoe, .initialized RX8, .code yX8_isCanoe cX8_isCanoe 2 (some .boolean), .fieldLink RX8 112 "FurPostsModel" "canoes" "I", .methodLink RX8 108 yX8_in, .static yX8_in, .code yX8_in cX8_in 3 (some .boolean)] ++ wsX80)
def wsX8_lose_r1 : List Cond := [Cond.fieldLink RX8 64 "FurPostsModel" "has" "[I", Cond.fieldLink RX8 144 "FurPostsModel" "letters" "I", Cond.fieldLink RX8 80 "FurPostsModel" "letterAt" "[I", Cond.fieldLink RX8 74 "FurPostsModel" "letterKind" "[I", Cond.fieldLink RX8 156 "FurPostsModel" "debtsLost" "I", Cond.fieldLink RX8 86 "FurPostsModel" "letterTwo" "[I", Cond.fieldLink RX8 52 "FurPostsModel" "state" "[I", Cond.methodLink RX8 153 yX8_isAway, Cond.instanceMethod yX8_isAway, Cond.selects RX8 yX8_isAway yX8_isAway, Cond.initialized RX8, Cond.code yX8_isAway cX8_isAway 2 (some .boolean), Cond.methodLink RX8 150 yX8_isCanoe, Cond.instanceMethod yX8_isCanoe, Cond.selects RX8 yX8_isCanoe yX8_isCanoe, Cond.code yX8_isCanoe cX8_isCanoe 2 (some .boolean), Cond.fieldLink RX8 112 "FurPostsModel" "canoes" "I", Cond.methodLink RX8 108 yX8_in, Cond.static yX8_in, Cond.code yX8_in cX8_in 3 (some .boolean), Cond.methodLink RX8 134 yX8_sums, Cond.instanceMethod yX8_sums, Cond.selects RX8 yX8_sums yX8_sums, Cond.code yX8_sums cX8_sums 4 none]
def wsX8_lose_r2 : List Cond := [Cond.fieldLink RX8 98 "FurPostsModel" "sums" "[I"]
def wsX8_lose : List Cond := .code yX8_lose cX8_lose 4 (some .int) :: ((wsX8_lose_r1 ++ wsX8_lose_r2) ++ wsX80)
def wsX8_spoil : List Cond := .code yX8_spoil cX8_spoil 4 (some .boolean) :: ([.fieldLink RX8 64 "FurPostsModel" "has" "[I", .methodLink RX8 153 yX8_isAway, .instanceMethod yX8_isAway, .selects RX8 yX8_isAway yX8_isAway, .initialized RX8, .code yX8_isAway cX8_isAway 2 (some .boolean), .fieldLink RX8 52 "FurPostsModel" "state" "[I", .methodLink RX8 150 yX8_isCanoe, .instanceMethod yX8_isCanoe, .selects RX8 yX8_isCanoe yX8_isCanoe, .code yX8_isCanoe cX8_isCanoe 2 (some .boolean), .fieldLink RX8 112 "FurPostsModel" "canoes" "I", .methodLink RX8 108 yX8_in, .static yX8_in, .code yX8_in cX8_in 3 (some .boolean), .methodLink RX8 127 yX8_isWare, .static yX8_isWare, .code yX8_isWare cX8_isWare 1 (some .boolean), .methodLink RX8 134 yX8_sums, .instanceMethod yX8_sums, .selects RX8 yX8_sums yX8_sums, .code yX8_sums cX8_sums 4 none, .fieldLink RX8 98 "FurPostsModel" "sums" "[I"] ++ wsX80)
def wsX8_reads : List Cond := .code yX8_reads cX8_reads 4 none :: ([.fieldLink RX8 77 "FurPostsModel" "letterTo" "[I", .fieldLink RX8 80 "FurPostsModel" "letterAt" "[I", .fieldLink RX8 74 "FurPostsModel" "letterKind" "[I", .fieldLink RX8 13 "FurPostsModel" "price" "[I", .fieldLink RX8 83 "FurPostsModel" "letterOne" "[I", .fieldLink RX8 86 "FurPostsModel" "letterTwo" "[I", .fieldLink RX8 16 "FurPostsModel" "owes" "[I", .fieldLink RX8 92 "FurPostsModel" "reported" "[I"] ++ wsX80)
def wsX8_comes : List Cond := .code yX8_comes cX8_comes 4 none :: ([.fieldLink RX8 52 "FurPostsModel" "state" "[I", .fieldLink RX8 58 "FurPostsModel" "cameOn" "[I", .fieldLink RX8 137 "FurPostsModel" "now" "I", .fieldLink RX8 64 "FurPostsModel" "has" "[I", .fieldLink RX8 67 "FurPostsModel" "sent" "[I", .fieldLink RX8 70 "FurPostsModel" "isOther" "[Z", .fieldLink RX8 9 "FurPostsModel" "store" "[I", .fieldLink RX8 43 "FurPostsModel" "to" "[I", .fieldLink RX8 144 "FurPostsModel" "letters" "I", .fieldLink RX8 80 "FurPostsModel" "letterAt" "[I", .fieldLink RX8 77 "FurPostsModel" "letterTo" "[I", .methodLink RX8 159 yX8_reads, .instanceMethod yX8_reads, .selects RX8 yX8_reads yX8_reads, .initialized RX8, .code yX8_reads cX8_reads 4 none, .fieldLink RX8 74 "FurPostsModel" "letterKind" "[I", .fieldLink RX8 13 "FurPostsModel" "price" "[I", .fieldLink RX8 83 "FurPostsModel" "letterOne" "[I", .fieldLink RX8 86 "FurPostsModel" "letterTwo" "[I", .fieldLink RX8 16 "FurPostsModel" "owes" "[I", .fieldLink RX8 92 "FurPostsModel" "reported" "[I"] ++ wsX80)
def wsX8_go_r1 : List Cond := [Cond.fieldLink RX8 137 "FurPostsModel" "now" "I", Cond.fieldLink RX8 112 "FurPostsModel" "canoes" "I", Cond.fieldLink RX8 52 "FurPostsModel" "state" "[I", Cond.fieldLink RX8 46 "FurPostsModel" "wayOf" "[I", Cond.fieldLink RX8 49 "FurPostsModel" "toGo" "[I", Cond.methodLink RX8 108 yX8_in, Cond.static yX8_in, Cond.initialized RX8, Cond.code yX8_in cX8_in 3 (some .boolean), Cond.methodLink RX8 140 yX8_isOpen, Cond.instanceMethod yX8_isOpen, Cond.selects RX8 yX8_isOpen yX8_isOpen, Cond.code yX8_isOpen cX8_isOpen 3 (some .boolean), Cond.fieldLink RX8 28 "FurPostsModel" "opens" "[I", Cond.fieldLink RX8 31 "FurPostsModel" "shuts" "[I", Cond.methodLink RX8 163 yX8_comes, Cond.instanceMethod yX8_comes, Cond.selects RX8 yX8_comes yX8_comes, Cond.code yX8_comes cX8_comes 4 none, Cond.fieldLink RX8 58 "FurPostsModel" "cameOn" "[I", Cond.fieldLink RX8 64 "FurPostsModel" "has" "[I", Cond.fieldLink RX8 67 "FurPostsModel" "sent" "[I", Cond.fieldLink RX8 70 "FurPostsModel" "isOther" "[Z", Cond.fieldLink RX8 9 "FurPostsModel" "store" "[I"]
def wsX8_go_r2 : List Cond := [Cond.fieldLink RX8 43 "FurPostsModel" "to" "[I", Cond.fieldLink RX8 144 "FurPostsModel" "letters" "I", Cond.fieldLink RX8 80 "FurPostsModel" "letterAt" "[I", Cond.fieldLink RX8 77 "FurPostsModel" "letterTo" "[I", Cond.methodLink RX8 159 yX8_reads, Cond.instanceMethod yX8_reads, Cond.selects RX8 yX8_reads yX8_reads, Cond.code yX8_reads cX8_reads 4 none, Cond.fieldLink RX8 74 "FurPostsModel" "letterKind" "[I", Cond.fieldLink RX8 13 "FurPostsModel" "price" "[I", Cond.fieldLink RX8 83 "FurPostsModel" "letterOne" "[I", Cond.fieldLink RX8 86 "FurPostsModel" "letterTwo" "[I", Cond.fieldLink RX8 16 "FurPostsModel" "owes" "[I", Cond.fieldLink RX8 92 "FurPostsModel" "reported" "[I"]
def wsX8_go : List Cond := .code yX8_go cX8_go 4 (some .int) :: ((wsX8_go_r1 ++ wsX8_go_r2) ++ wsX80)
def wsX8_isDeal : List Cond := .code yX8_isDeal cX8_isDeal 5 (some .boolean) :: ([.methodLink RX8 119 yX8_isPost, .instanceMethod yX8_isPost, .selects RX8 yX8_isPost yX8_isPost, .initialized RX8, .code yX8_isPost cX8_isPost 2 (some .boolean), .fieldLink RX8 104 "FurPostsModel" "posts" "I", .methodLink RX8 108 yX8_in, .static yX8_in, .code yX8_in cX8_in 3 (some .boolean), .methodLink RX8 127 yX8_isWare, .static yX8_isWare, .code yX8_isWare cX8_isWare 1 (some .boolean)] ++ wsX80)
def wsX8_sell_r1 : List Cond := [Cond.fieldLink RX8 16 "FurPostsModel" "owes" "[I", Cond.fieldLink RX8 13 "FurPostsModel" "price" "[I", Cond.constant RX8 133 (100000), Cond.fieldLink RX8 9 "FurPostsModel" "store" "[I", Cond.methodLink RX8 166 yX8_isDeal, Cond.instanceMethod yX8_isDeal, Cond.selects RX8 yX8_isDeal yX8_isDeal, Cond.initialized RX8, Cond.code yX8_isDeal cX8_isDeal 5 (some .boolean), Cond.methodLink RX8 119 yX8_isPost, Cond.instanceMethod yX8_isPost, Cond.selects RX8 yX8_isPost yX8_isPost, Cond.code yX8_isPost cX8_isPost 2 (some .boolean), Cond.fieldLink RX8 104 "FurPostsModel" "posts" "I", Cond.methodLink RX8 108 yX8_in, Cond.static yX8_in, Cond.code yX8_in cX8_in 3 (some .boolean), Cond.methodLink RX8 127 yX8_isWare, Cond.static yX8_isWare, Cond.code yX8_isWare cX8_isWare 1 (some .boolean), Cond.methodLink RX8 130 yX8_stored, Cond.instanceMethod yX8_stored, Cond.selects RX8 yX8_stored yX8_stored, Cond.code yX8_stored cX8_stored 3 (some .int)]
def wsX8_sell_r2 : List Cond := [Cond.methodLink RX8 134 yX8_sums, Cond.instanceMethod yX8_sums, Cond.selects RX8 yX8_sums yX8_sums, Cond.code yX8_sums cX8_sums 4 none, Cond.fieldLink RX8 98 "FurPostsModel" "sums" "[I"]
def wsX8_sell : List Cond := .code yX8_sell cX8_sell 7 (some .int) :: ((wsX8_sell_r1 ++ wsX8_sell_r2) ++ wsX80)
def wsX8_buy_r1 : List Cond := [Cond.constant RX8 133 (100000), Cond.fieldLink RX8 16 "FurPostsModel" "owes" "[I", Cond.fieldLink RX8 13 "FurPostsModel" "price" "[I", Cond.constant RX8 170 (-100000), Cond.fieldLink RX8 9 "FurPostsModel" "store" "[I", Cond.methodLink RX8 166 yX8_isDeal, Cond.instanceMethod yX8_isDeal, Cond.selects RX8 yX8_isDeal yX8_isDeal, Cond.initialized RX8, Cond.code yX8_isDeal cX8_isDeal 5 (some .boolean), Cond.methodLink RX8 119 yX8_isPost, Cond.instanceMethod yX8_isPost, Cond.selects RX8 yX8_isPost yX8_isPost, Cond.code yX8_isPost cX8_isPost 2 (some .boolean), Cond.fieldLink RX8 104 "FurPostsModel" "posts" "I", Cond.methodLink RX8 108 yX8_in, Cond.static yX8_in, Cond.code yX8_in cX8_in 3 (some .boolean), Cond.methodLink RX8 127 yX8_isWare, Cond.static yX8_isWare, Cond.code yX8_isWare cX8_isWare 1 (some .boolean), Cond.methodLink RX8 130 yX8_stored, Cond.instanceMethod yX8_stored, Cond.selects RX8 yX8_stored yX8_stored]
def wsX8_buy_r2 : List Cond := [Cond.code yX8_stored cX8_stored 3 (some .int), Cond.methodLink RX8 134 yX8_sums, Cond.instanceMethod yX8_sums, Cond.selects RX8 yX8_sums yX8_sums, Cond.code yX8_sums cX8_sums 4 none, Cond.fieldLink RX8 98 "FurPostsModel" "sums" "[I"]
def wsX8_buy : List Cond := .code yX8_buy cX8_buy 7 (some .int) :: ((wsX8_buy_r1 ++ wsX8_buy_r2) ++ wsX80)
def wsX8_give_r1 : List Cond := [Cond.fieldLink RX8 9 "FurPostsModel" "store" "[I", Cond.methodLink RX8 166 yX8_isDeal, Cond.instanceMethod yX8_isDeal, Cond.selects RX8 yX8_isDeal yX8_isDeal, Cond.initialized RX8, Cond.code yX8_isDeal cX8_isDeal 5 (some .boolean), Cond.methodLink RX8 119 yX8_isPost, Cond.instanceMethod yX8_isPost, Cond.selects RX8 yX8_isPost yX8_isPost, Cond.code yX8_isPost cX8_isPost 2 (some .boolean), Cond.fieldLink RX8 104 "FurPostsModel" "posts" "I", Cond.methodLink RX8 108 yX8_in, Cond.static yX8_in, Cond.code yX8_in cX8_in 3 (some .boolean), Cond.methodLink RX8 127 yX8_isWare, Cond.static yX8_isWare, Cond.code yX8_isWare cX8_isWare 1 (some .boolean), Cond.methodLink RX8 130 yX8_stored, Cond.instanceMethod yX8_stored, Cond.selects RX8 yX8_stored yX8_stored, Cond.code yX8_stored cX8_stored 3 (some .int), Cond.methodLink RX8 134 yX8_sums, Cond.instanceMethod yX8_sums, Cond.selects RX8 yX8_sums yX8_sums]
def wsX8_give_r2 : List Cond := [Cond.code yX8_sums cX8_sums 4 none, Cond.fieldLink RX8 98 "FurPostsModel" "sums" "[I"]
def wsX8_give : List Cond := .code yX8_give cX8_give 5 (some .int) :: ((wsX8_give_r1 ++ wsX8_give_r2) ++ wsX80)
def wsX8_owes : List Cond := .code yX8_owes cX8_owes 3 (some .int) :: ([.fieldLink RX8 16 "FurPostsModel" "owes" "[I", .methodLink RX8 119 yX8_isPost, .instanceMethod yX8_isPost, .selects RX8 yX8_isPost yX8_isPost, .initialized RX8, .code yX8_isPost cX8_isPost 2 (some .boolean), .fieldLink RX8 104 "FurPostsModel" "posts" "I", .methodLink RX8 108 yX8_in, .static yX8_in, .code yX8_in cX8_in 3 (some .boolean)] ++ wsX80)
def wsX8_price : List Cond := .code yX8_price cX8_price 3 (some .int) :: ([.fieldLink RX8 13 "FurPostsModel" "price" "[I", .methodLink RX8 119 yX8_isPost, .instanceMethod yX8_isPost, .selects RX8 yX8_isPost yX8_isPost, .initialized RX8, .code yX8_isPost cX8_isPost 2 (some .boolean), .fieldLink RX8 104 "FurPostsModel" "posts" "I", .methodLink RX8 108 yX8_in, .static yX8_in, .code yX8_in cX8_in 3 (some .boolean), .methodLink RX8 127 yX8_isWare, .static yX8_isWare, .code yX8_isWare cX8_isWare 1 (some .boolean)] ++ wsX80)
def wsX8_canWrite : List Cond := .code yX8_canWrite cX8_canWrite 3 (some .boolean) :: ([.fieldLink RX8 144 "FurPostsModel" "letters" "I", .methodLink RX8 119 yX8_isPost, .instanceMethod yX8_isPost, .selects RX8 yX8_isPost yX8_isPost, .initialized RX8, .code yX8_isPost cX8_isPost 2 (some .boolean), .fieldLink RX8 104 "FurPostsModel" "posts" "I", .methodLink RX8 108 yX8_in, .static yX8_in, .code yX8_in cX8_in 3 (some .boolean)] ++ wsX80)
def wsX8_writes : List Cond := .code yX8_writes cX8_writes 6 (some .int) :: ([.fieldLink RX8 74 "FurPostsModel" "letterKind" "[I", .fieldLink RX8 144 "FurPostsModel" "letters" "I", .fieldLink RX8 80 "FurPostsModel" "letterAt" "[I", .fieldLink RX8 77 "FurPostsModel" "letterTo" "[I", .fieldLink RX8 83 "FurPostsModel" "letterOne" "[I", .fieldLink RX8 86 "FurPostsModel" "letterTwo" "[I"] ++ wsX80)
def wsX8_order_r1 : List Cond := [Cond.methodLink RX8 171 yX8_canWrite, Cond.instanceMethod yX8_canWrite, Cond.selects RX8 yX8_canWrite yX8_canWrite, Cond.initialized RX8, Cond.code yX8_canWrite cX8_canWrite 3 (some .boolean), Cond.fieldLink RX8 144 "FurPostsModel" "letters" "I", Cond.methodLink RX8 119 yX8_isPost, Cond.instanceMethod yX8_isPost, Cond.selects RX8 yX8_isPost yX8_isPost, Cond.code yX8_isPost cX8_isPost 2 (some .boolean), Cond.fieldLink RX8 104 "FurPostsModel" "posts" "I", Cond.methodLink RX8 108 yX8_in, Cond.static yX8_in, Cond.code yX8_in cX8_in 3 (some .boolean), Cond.methodLink RX8 127 yX8_isWare, Cond.static yX8_isWare, Cond.code yX8_isWare cX8_isWare 1 (some .boolean), Cond.methodLink RX8 174 yX8_writes, Cond.instanceMethod yX8_writes, Cond.selects RX8 yX8_writes yX8_writes, Cond.code yX8_writes cX8_writes 6 (some .int), Cond.fieldLink RX8 74 "FurPostsModel" "letterKind" "[I", Cond.fieldLink RX8 80 "FurPostsModel" "letterAt" "[I", Cond.fieldLink RX8 77 "FurPostsModel" "letterTo" "[I"]
def wsX8_order_r2 : List Cond := [Cond.fieldLink RX8 83 "FurPostsModel" "letterOne" "[I", Cond.fieldLink RX8 86 "FurPostsModel" "letterTwo" "[I"]
def wsX8_order : List Cond := .code yX8_order cX8_order 5 (some .int) :: ((wsX8_order_r1 ++ wsX8_order_r2) ++ wsX80)
def wsX8_debt_r1 : List Cond := [Cond.fieldLink RX8 16 "FurPostsModel" "owes" "[I", Cond.methodLink RX8 171 yX8_canWrite, Cond.instanceMethod yX8_canWrite, Cond.selects RX8 yX8_canWrite yX8_canWrite, Cond.initialized RX8, Cond.code yX8_canWrite cX8_canWrite 3 (some .boolean), Cond.fieldLink RX8 144 "FurPostsModel" "letters" "I", Cond.methodLink RX8 119 yX8_isPost, Cond.instanceMethod yX8_isPost, Cond.selects RX8 yX8_isPost yX8_isPost, Cond.code yX8_isPost cX8_isPost 2 (some .boolean), Cond.fieldLink RX8 104 "FurPostsModel" "posts" "I", Cond.methodLink RX8 108 yX8_in, Cond.static yX8_in, Cond.code yX8_in cX8_in 3 (some .boolean), Cond.methodLink RX8 178 yX8_owes, Cond.instanceMethod yX8_owes, Cond.selects RX8 yX8_owes yX8_owes, Cond.code yX8_owes cX8_owes 3 (some .int), Cond.methodLink RX8 174 yX8_writes, Cond.instanceMethod yX8_writes, Cond.selects RX8 yX8_writes yX8_writes, Cond.code yX8_writes cX8_writes 6 (some .int), Cond.fieldLink RX8 74 "FurPostsModel" "letterKind" "[I"]
def wsX8_debt_r2 : List Cond := [Cond.fieldLink RX8 80 "FurPostsModel" "letterAt" "[I", Cond.fieldLink RX8 77 "FurPostsModel" "letterTo" "[I", Cond.fieldLink RX8 83 "FurPostsModel" "letterOne" "[I", Cond.fieldLink RX8 86 "FurPostsModel" "letterTwo" "[I"]
def wsX8_debt : List Cond := .code yX8_debt cX8_debt 5 (some .int) :: ((wsX8_debt_r1 ++ wsX8_debt_r2) ++ wsX80)
def wsX8_report_r1 : List Cond := [Cond.fieldLink RX8 137 "FurPostsModel" "now" "I", Cond.fieldLink RX8 89 "FurPostsModel" "letterStore" "[I", Cond.methodLink RX8 171 yX8_canWrite, Cond.instanceMethod yX8_canWrite, Cond.selects RX8 yX8_canWrite yX8_canWrite, Cond.initialized RX8, Cond.code yX8_canWrite cX8_canWrite 3 (some .boolean), Cond.fieldLink RX8 144 "FurPostsModel" "letters" "I", Cond.methodLink RX8 119 yX8_isPost, Cond.instanceMethod yX8_isPost, Cond.selects RX8 yX8_isPost yX8_isPost, Cond.code yX8_isPost cX8_isPost 2 (some .boolean), Cond.fieldLink RX8 104 "FurPostsModel" "posts" "I", Cond.methodLink RX8 108 yX8_in, Cond.static yX8_in, Cond.code yX8_in cX8_in 3 (some .boolean), Cond.methodLink RX8 174 yX8_writes, Cond.instanceMethod yX8_writes, Cond.selects RX8 yX8_writes yX8_writes, Cond.code yX8_writes cX8_writes 6 (some .int), Cond.fieldLink RX8 74 "FurPostsModel" "letterKind" "[I", Cond.fieldLink RX8 80 "FurPostsModel" "letterAt" "[I", Cond.fieldLink RX8 77 "FurPostsModel" "letterTo" "[I", Cond.fieldLink RX8 83 "FurPostsModel" "letterOne" "[I"]
def wsX8_report_r2 : List Cond := [Cond.fieldLink RX8 86 "FurPostsModel" "letterTwo" "[I", Cond.methodLink RX8 130 yX8_stored, Cond.instanceMethod yX8_stored, Cond.selects RX8 yX8_stored yX8_stored, Cond.code yX8_stored cX8_stored 3 (some .int), Cond.fieldLink RX8 9 "FurPostsModel" "store" "[I"]
def wsX8_report : List Cond := .code yX8_report cX8_report 5 (some .int) :: ((wsX8_report_r1 ++ wsX8_report_r2) ++ wsX80)
def wsX8_known : List Cond := .code yX8_known cX8_known 5 (some .int) :: ([.fieldLink RX8 92 "FurPostsModel" "reported" "[I", .fieldLink RX8 89 "FurPostsModel" "letterStore" "[I", .methodLink RX8 119 yX8_isPost, .instanceMethod yX8_isPost, .selects RX8 yX8_isPost yX8_isPost, .initialized RX8, .code yX8_isPost cX8_isPost 2 (some .boolean), .fieldLink RX8 104 "FurPostsModel" "posts" "I", .methodLink RX8 108 yX8_in, .static yX8_in, .code yX8_in cX8_in 3 (some .boolean), .methodLink RX8 127 yX8_isWare, .static yX8_isWare, .code yX8_isWare cX8_isWare 1 (some .boolean), .methodLink RX8 130 yX8_stored, .instanceMethod yX8_stored, .selects RX8 yX8_stored yX8_stored, .code yX8_stored cX8_stored 3 (some .int), .fieldLink RX8 9 "FurPostsModel" "store" "[I"] ++ wsX80)
def wsX8_knownDay : List Cond := .code yX8_knownDay cX8_knownDay 4 (some .int) :: ([.fieldLink RX8 137 "FurPostsModel" "now" "I", .fieldLink RX8 92 "FurPostsModel" "reported" "[I", .fieldLink RX8 86 "FurPostsModel" "letterTwo" "[I", .methodLink RX8 119 yX8_isPost, .instanceMethod yX8_isPost, .selects RX8 yX8_isPost yX8_isPost, .initialized RX8, .code yX8_isPost cX8_isPost 2 (some .boolean), .fieldLink RX8 104 "FurPostsModel" "posts" "I", .methodLink RX8 108 yX8_in, .static yX8_in, .code yX8_in cX8_in 3 (some .boolean)] ++ wsX80)
def wsX8_want : List Cond := .code yX8_want cX8_want 4 (some .boolean) :: ([.fieldLink RX8 95 "FurPostsModel" "parts" "[I", .methodLink RX8 127 yX8_isWare, .static yX8_isWare, .initialized RX8, .code yX8_isWare cX8_isWare 1 (some .boolean), .methodLink RX8 108 yX8_in, .static yX8_in, .code yX8_in cX8_in 3 (some .boolean)] ++ wsX80)
def wsX8_cost : List Cond := .code yX8_cost cX8_cost 10 (some .int) :: ([.fieldLink RX8 95 "FurPostsModel" "parts" "[I", .methodLink RX8 119 yX8_isPost, .instanceMethod yX8_isPost, .selects RX8 yX8_isPost yX8_isPost, .initialized RX8, .code yX8_isPost cX8_isPost 2 (some .boolean), .fieldLink RX8 104 "FurPostsModel" "posts" "I", .methodLink RX8 108 yX8_in, .static yX8_in, .code yX8_in cX8_in 3 (some .boolean), .methodLink RX8 127 yX8_isWare, .static yX8_isWare, .code yX8_isWare cX8_isWare 1 (some .boolean), .methodLink RX8 130 yX8_stored, .instanceMethod yX8_stored, .selects RX8 yX8_stored yX8_stored, .code yX8_stored cX8_stored 3 (some .int), .fieldLink RX8 9 "FurPostsModel" "store" "[I"] ++ wsX80)
def wsX8_indent : List Cond := .code yX8_indent cX8_indent 8 (some .int) :: ([.methodLink RX8 180 yX8_cost, .instanceMethod yX8_cost, .selects RX8 yX8_cost yX8_cost, .initialized RX8, .code yX8_cost cX8_cost 10 (some .int), .fieldLink RX8 95 "FurPostsModel" "parts" "[I", .methodLink RX8 119 yX8_isPost, .instanceMethod yX8_isPost, .selects RX8 yX8_isPost yX8_isPost, .code yX8_isPost cX8_isPost 2 (some .boolean), .fieldLink RX8 104 "FurPostsModel" "posts" "I", .methodLink RX8 108 yX8_in, .static yX8_in, .code yX8_in cX8_in 3 (some .boolean), .methodLink RX8 127 yX8_isWare, .static yX8_isWare, .code yX8_isWare cX8_isWare 1 (some .boolean), .methodLink RX8 130 yX8_stored, .instanceMethod yX8_stored, .selects RX8 yX8_stored yX8_stored, .code yX8_stored cX8_stored 3 (some .int), .fieldLink RX8 9 "FurPostsModel" "store" "[I"] ++ wsX80)
def wsX8_quarrel : List Cond := .code yX8_quarrel cX8_quarrel 5 (some .int) :: ([.fieldLink RX8 112 "FurPostsModel" "canoes" "I", .fieldLink RX8 40 "FurPostsModel" "from" "[I", .fieldLink RX8 43 "FurPostsModel" "to" "[I", .fieldLink RX8 52 "FurPostsModel" "state" "[I", .fieldLink RX8 70 "FurPostsModel" "isOther" "[Z", .methodLink RX8 119 yX8_isPost, .instanceMethod yX8_isPost, .selects RX8 yX8_isPost yX8_isPost, .initialized RX8, .code yX8_isPost cX8_isPost 2 (some .boolean), .fieldLink RX8 104 "FurPostsModel" "posts" "I", .methodLink RX8 108 yX8_in, .static yX8_in, .code yX8_in cX8_in 3 (some .boolean)] ++ wsX80)
def wsX8_canoe : List Cond := .code yX8_canoe cX8_canoe 3 (some .int) :: ([.fieldLink RX8 64 "FurPostsModel" "has" "[I", .fieldLink RX8 67 "FurPostsModel" "sent" "[I", .fieldLink RX8 40 "FurPostsModel" "from" "[I", .fieldLink RX8 43 "FurPostsModel" "to" "[I", .fieldLink RX8 46 "FurPostsModel" "wayOf" "[I", .fieldLink RX8 52 "FurPostsModel" "state" "[I", .fieldLink RX8 49 "FurPostsModel" "toGo" "[I", .fieldLink RX8 55 "FurPostsModel" "sentOn" "[I", .fieldLink RX8 58 "FurPostsModel" "cameOn" "[I", .fieldLink RX8 61 "FurPostsModel" "withLetters" "[I", .methodLink RX8 150 yX8_isCanoe, .instanceMethod yX8_isCanoe, .selects RX8 yX8_isCanoe yX8_isCanoe, .initialized RX8, .code yX8_isCanoe cX8_isCanoe 2 (some .boolean), .fieldLink RX8 112 "FurPostsModel" "canoes" "I", .methodLink RX8 108 yX8_in, .static yX8_in, .code yX8_in cX8_in 3 (some .boolean)] ++ wsX80)
def wsX8_told : List Cond := .code yX8_told cX8_told 5 (some .int) :: ([.fieldLink RX8 144 "FurPostsModel" "letters" "I", .fieldLink RX8 80 "FurPostsModel" "letterAt" "[I", .methodLink RX8 119 yX8_isPost, .instanceMethod yX8_isPost, .selects RX8 yX8_isPost yX8_isPost, .initialized RX8, .code yX8_isPost cX8_isPost 2 (some .boolean), .fieldLink RX8 104 "FurPostsModel" "posts" "I", .methodLink RX8 108 yX8_in, .static yX8_in, .code yX8_in cX8_in 3 (some .boolean), .methodLink RX8 130 yX8_stored, .instanceMethod yX8_stored, .selects RX8 yX8_stored yX8_stored, .code yX8_stored cX8_stored 3 (some .int), .fieldLink RX8 9 "FurPostsModel" "store" "[I", .methodLink RX8 178 yX8_owes, .instanceMethod yX8_owes, .selects RX8 yX8_owes yX8_owes, .code yX8_owes cX8_owes 3 (some .int), .fieldLink RX8 16 "FurPostsModel" "owes" "[I"] ++ wsX80)
def wsX8_count : List Cond := .code yX8_count cX8_count 3 (some .int) :: ([.fieldLink RX8 98 "FurPostsModel" "sums" "[I", .fieldLink RX8 137 "FurPostsModel" "now" "I", .fieldLink RX8 104 "FurPostsModel" "posts" "I", .fieldLink RX8 115 "FurPostsModel" "ways" "I", .fieldLink RX8 112 "FurPostsModel" "canoes" "I", .fieldLink RX8 144 "FurPostsModel" "letters" "I", .fieldLink RX8 156 "FurPostsModel" "debtsLost" "I", .methodLink RX8 108 yX8_in, .static yX8_in, .initialized RX8, .code yX8_in cX8_in 3 (some .boolean), .methodLink RX8 127 yX8_isWare, .static yX8_isWare, .code yX8_isWare cX8_isWare 1 (some .boolean)] ++ wsX80)
def wsJ9_min_7cf53 : List Cond := .code yJ9_min_7cf53 cJ9_min_7cf53 2 (some .int) :: ([])
def wsL_law_r1 : List Cond := [Cond.classLink RL 7 RX7, Cond.instantiable RX7 14, Cond.initialized RX7, Cond.classLink RL 10 RX8, Cond.instantiable RX8 37, Cond.initialized RX8, Cond.methodLink RL 9 yX7_init, Cond.instanceMethod yX7_init, Cond.code yX7_init cX7_init 2 none, Cond.methodLink RX7 1 objectInit, Cond.instanceMethod objectInit, Cond.code objectInit ⟨#[0xb1]⟩ 1 none, Cond.classLink RX7 9 RX4, Cond.fieldLink RX7 11 "FurPosts" "posts" "[LFurPosts$Post;", Cond.classLink RX7 15 RX6, Cond.fieldLink RX7 17 "FurPosts" "ways" "[LFurPosts$Way;", Cond.classLink RX7 21 RX0, Cond.fieldLink RX7 23 "FurPosts" "canoes" "[LFurPosts$Canoe;", Cond.classLink RX7 27 RX2, Cond.fieldLink RX7 29 "FurPosts" "letters" "[LFurPosts$Letter;", Cond.classLink RX7 33 "[[I", Cond.arrayClass .int, Cond.fieldLink RX7 35 "FurPosts" "distances" "[[I", Cond.fieldLink RX7 38 "FurPosts" "wants" "[[I"]
def wsL_law_r2 : List Cond := [Cond.fieldLink RX7 41 "FurPosts" "tallies" "[[I", Cond.fieldLink RX7 44 "FurPosts" "loaded" "[I", Cond.methodLink RX7 48 yJ7_fill_53178, Cond.static yJ7_fill_53178, Cond.initialized RJ7, Cond.code yJ7_fill_53178 cJ7_fill_53178 4 none, Cond.methodLink RL 12 yX8_init, Cond.instanceMethod yX8_init, Cond.code yX8_init cX8_init 2 none, Cond.methodLink RX8 1 objectInit, Cond.fieldLink RX8 9 "FurPostsModel" "store" "[I", Cond.fieldLink RX8 13 "FurPostsModel" "price" "[I", Cond.fieldLink RX8 16 "FurPostsModel" "owes" "[I", Cond.fieldLink RX8 19 "FurPostsModel" "wayA" "[I", Cond.fieldLink RX8 22 "FurPostsModel" "wayB" "[I", Cond.fieldLink RX8 25 "FurPostsModel" "wayLong" "[I", Cond.fieldLink RX8 28 "FurPostsModel" "opens" "[I", Cond.fieldLink RX8 31 "FurPostsModel" "shuts" "[I", Cond.fieldLink RX8 34 "FurPostsModel" "bears" "[I", Cond.fieldLink RX8 37 "FurPostsModel" "loaded" "[I", Cond.fieldLink RX8 40 "FurPostsModel" "from" "[I", Cond.fieldLink RX8 43 "FurPostsModel" "to" "[I", Cond.fieldLink RX8 46 "FurPostsModel" "wayOf" "[I", Cond.fieldLink RX8 49 "FurPostsModel" "toGo" "[I"]
def wsL_law_r3 : List Cond := [Cond.fieldLink RX8 52 "FurPostsModel" "state" "[I", Cond.fieldLink RX8 55 "FurPostsModel" "sentOn" "[I", Cond.fieldLink RX8 58 "FurPostsModel" "cameOn" "[I", Cond.fieldLink RX8 61 "FurPostsModel" "withLetters" "[I", Cond.fieldLink RX8 64 "FurPostsModel" "has" "[I", Cond.fieldLink RX8 67 "FurPostsModel" "sent" "[I", Cond.arrayClass .boolean, Cond.fieldLink RX8 70 "FurPostsModel" "isOther" "[Z", Cond.fieldLink RX8 74 "FurPostsModel" "letterKind" "[I", Cond.fieldLink RX8 77 "FurPostsModel" "letterTo" "[I", Cond.fieldLink RX8 80 "FurPostsModel" "letterAt" "[I", Cond.fieldLink RX8 83 "FurPostsModel" "letterOne" "[I", Cond.fieldLink RX8 86 "FurPostsModel" "letterTwo" "[I", Cond.fieldLink RX8 89 "FurPostsModel" "letterStore" "[I", Cond.fieldLink RX8 92 "FurPostsModel" "reported" "[I", Cond.fieldLink RX8 95 "FurPostsModel" "parts" "[I", Cond.fieldLink RX8 98 "FurPostsModel" "sums" "[I", Cond.fieldLink RX8 101 "FurPostsModel" "far" "[I", Cond.methodLink RL 13 yX7_post, Cond.instanceMethod yX7_post, Cond.selects RX7 yX7_post yX7_post, Cond.code yX7_post cX7_post 1 (some .int), Cond.fieldLink RX7 54 "FurPosts" "postCount" "I", Cond.instantiable RX4 4]
def wsL_law_r4 : List Cond := [Cond.initialized RX4, Cond.methodLink RX7 58 yX4_init, Cond.instanceMethod yX4_init, Cond.code yX4_init cX4_init 1 none, Cond.methodLink RX4 3 objectInit, Cond.fieldLink RX4 9 "FurPosts$Post" "stock" "[I", Cond.fieldLink RX4 15 "FurPosts$Post" "prices" "[I", Cond.fieldLink RX4 18 "FurPosts$Post" "owed" "[I", Cond.classLink RX4 21 RX5, Cond.fieldLink RX4 23 "FurPosts$Post" "reports" "[LFurPosts$Report;", Cond.methodLink RX4 27 yJ7_fill_53178, Cond.methodLink RL 17 yX8_post, Cond.instanceMethod yX8_post, Cond.selects RX8 yX8_post yX8_post, Cond.code yX8_post cX8_post 1 (some .int), Cond.fieldLink RX8 104 "FurPostsModel" "posts" "I", Cond.methodLink RL 18 yX7_way, Cond.instanceMethod yX7_way, Cond.selects RX7 yX7_way yX7_way, Cond.code yX7_way cX7_way 8 (some .int), Cond.fieldLink RX7 63 "FurPosts" "wayCount" "I", Cond.constant RX7 70 (1000000), Cond.instantiable RX6 6, Cond.initialized RX6]
def wsL_law_r5 : List Cond := [Cond.methodLink RX7 59 yX7_areTwoPosts, Cond.instanceMethod yX7_areTwoPosts, Cond.selects RX7 yX7_areTwoPosts yX7_areTwoPosts, Cond.code yX7_areTwoPosts cX7_areTwoPosts 3 (some .boolean), Cond.methodLink RX7 84 yX7_postAt, Cond.instanceMethod yX7_postAt, Cond.selects RX7 yX7_postAt yX7_postAt, Cond.code yX7_postAt cX7_postAt 2 (some (.object "FurPosts$Post")), Cond.methodLink RX7 66 yX7_isWithin, Cond.static yX7_isWithin, Cond.code yX7_isWithin cX7_isWithin 3 (some .boolean), Cond.methodLink RX7 71 yX6_init, Cond.instanceMethod yX6_init, Cond.code yX6_init cX6_init 7 none, Cond.methodLink RX6 3 objectInit, Cond.fieldLink RX6 9 "FurPosts$Way" "a" "I", Cond.fieldLink RX6 15 "FurPosts$Way" "b" "I", Cond.fieldLink RX6 18 "FurPosts$Way" "days" "I", Cond.fieldLink RX6 21 "FurPosts$Way" "firstOpen" "I", Cond.fieldLink RX6 24 "FurPosts$Way" "lastOpen" "I", Cond.fieldLink RX6 27 "FurPosts$Way" "bears" "I", Cond.methodLink RX7 74 yX7_shortenDistances, Cond.instanceMethod yX7_shortenDistances, Cond.selects RX7 yX7_shortenDistances yX7_shortenDistances]
def wsL_law_r6 : List Cond := [Cond.code yX7_shortenDistances cX7_shortenDistances 7 none, Cond.methodLink RX7 78 Lib.Math.min.name, Cond.static Lib.Math.min.name, Cond.initialized "java/lang/Math", Cond.code Lib.Math.min.name Lib.Math.min.code 2 (some .int), Cond.methodLink RL 22 yX8_way, Cond.instanceMethod yX8_way, Cond.selects RX8 yX8_way yX8_way, Cond.code yX8_way cX8_way 8 (some .int), Cond.constant RX8 118 (1000000), Cond.fieldLink RX8 115 "FurPostsModel" "ways" "I", Cond.methodLink RX8 108 yX8_in, Cond.static yX8_in, Cond.code yX8_in cX8_in 3 (some .boolean), Cond.methodLink RX8 119 yX8_isPost, Cond.instanceMethod yX8_isPost, Cond.selects RX8 yX8_isPost yX8_isPost, Cond.code yX8_isPost cX8_isPost 2 (some .boolean), Cond.methodLink RX8 123 yX8_between, Cond.instanceMethod yX8_between, Cond.selects RX8 yX8_between yX8_between, Cond.code yX8_between cX8_between 4 (some .int), Cond.methodLink RL 23 yX7_store, Cond.instanceMethod yX7_store]
def wsL_law_r7 : List Cond := [Cond.selects RX7 yX7_store yX7_store, Cond.code yX7_store cX7_store 5 (some .int), Cond.fieldLink RX7 92 "FurPosts$Post" "stock" "[I", Cond.constant RX7 95 (100000), Cond.methodLink RX7 88 yX7_isWare, Cond.static yX7_isWare, Cond.code yX7_isWare cX7_isWare 1 (some .boolean), Cond.methodLink RL 27 yX8_store, Cond.instanceMethod yX8_store, Cond.selects RX8 yX8_store yX8_store, Cond.code yX8_store cX8_store 4 (some .int), Cond.constant RX8 133 (100000), Cond.methodLink RX8 127 yX8_isWare, Cond.static yX8_isWare, Cond.code yX8_isWare cX8_isWare 1 (some .boolean), Cond.methodLink RX8 130 yX8_stored, Cond.instanceMethod yX8_stored, Cond.selects RX8 yX8_stored yX8_stored, Cond.code yX8_stored cX8_stored 3 (some .int), Cond.methodLink RX8 134 yX8_sums, Cond.instanceMethod yX8_sums, Cond.selects RX8 yX8_sums yX8_sums, Cond.code yX8_sums cX8_sums 4 none, Cond.methodLink RL 28 yX7_load]
def wsL_law_r8 : List Cond := [Cond.instanceMethod yX7_load, Cond.selects RX7 yX7_load yX7_load, Cond.code yX7_load cX7_load 3 (some .boolean), Cond.methodLink RL 32 yX8_load, Cond.instanceMethod yX8_load, Cond.selects RX8 yX8_load yX8_load, Cond.code yX8_load cX8_load 3 (some .boolean), Cond.methodLink RL 33 yX7_send, Cond.instanceMethod yX7_send, Cond.selects RX7 yX7_send yX7_send, Cond.code yX7_send cX7_send 8 (some .int), Cond.fieldLink RX7 103 "FurPosts" "now" "I", Cond.fieldLink RX7 113 "FurPosts" "canoeCount" "I", Cond.instantiable RX0 11, Cond.initialized RX0, Cond.fieldLink RX7 120 "FurPosts$Way" "days" "I", Cond.methodLink RX7 123 ⟨"[I", "clone", "()Ljava/lang/Object;"⟩, Cond.sameMethod "[I" "java/lang/Object" "clone" "()Ljava/lang/Object;", Cond.native ⟨"java/lang/Object", "clone", "()Ljava/lang/Object;"⟩, Cond.instanceMethod ⟨"java/lang/Object", "clone", "()Ljava/lang/Object;"⟩, Cond.selects "[I" ⟨"[I", "clone", "()Ljava/lang/Object;"⟩ ⟨"java/lang/Object", "clone", "()Ljava/lang/Object;"⟩, Cond.classLink RX7 124 "[I", Cond.fieldLink RX7 135 "FurPosts$Canoe" "lettersSent" "I", Cond.methodLink RX7 96 yX7_wayAt]
def wsL_law_r9 : List Cond := [Cond.instanceMethod yX7_wayAt, Cond.selects RX7 yX7_wayAt yX7_wayAt, Cond.code yX7_wayAt cX7_wayAt 2 (some (.object "FurPosts$Way")), Cond.methodLink RX7 100 yX6_startsAt, Cond.instanceMethod yX6_startsAt, Cond.selects RX6 yX6_startsAt yX6_startsAt, Cond.code yX6_startsAt cX6_startsAt 2 (some .boolean), Cond.methodLink RX7 106 yX6_isOpenOn, Cond.instanceMethod yX6_isOpenOn, Cond.selects RX6 yX6_isOpenOn yX6_isOpenOn, Cond.code yX6_isOpenOn cX6_isOpenOn 2 (some .boolean), Cond.methodLink RX7 109 yX7_canLoad, Cond.instanceMethod yX7_canLoad, Cond.selects RX7 yX7_canLoad yX7_canLoad, Cond.code yX7_canLoad cX7_canLoad 5 (some .boolean), Cond.fieldLink RX7 162 "FurPosts$Way" "bears" "I", Cond.methodLink RX7 116 yX6_otherEnd, Cond.instanceMethod yX6_otherEnd, Cond.selects RX6 yX6_otherEnd yX6_otherEnd, Cond.code yX6_otherEnd cX6_otherEnd 2 (some .int), Cond.methodLink RX7 128 yX0_init, Cond.instanceMethod yX0_init, Cond.code yX0_init cX0_init 7 none, Cond.methodLink RX0 3 objectInit]
def wsL_law_r10 : List Cond := [Cond.fieldLink RX0 9 "FurPosts$Canoe" "dayCame" "I", Cond.fieldLink RX0 15 "FurPosts$Canoe" "state" "I", Cond.fieldLink RX0 18 "FurPosts$Canoe" "from" "I", Cond.fieldLink RX0 21 "FurPosts$Canoe" "to" "I", Cond.fieldLink RX0 24 "FurPosts$Canoe" "way" "I", Cond.fieldLink RX0 27 "FurPosts$Canoe" "daysToGo" "I", Cond.fieldLink RX0 30 "FurPosts$Canoe" "daySent" "I", Cond.fieldLink RX0 33 "FurPosts$Canoe" "waresSent" "[I", Cond.methodLink RX0 37 ⟨"[I", "clone", "()Ljava/lang/Object;"⟩, Cond.classLink RX0 38 "[I", Cond.fieldLink RX0 42 "FurPosts$Canoe" "wares" "[I", Cond.methodLink RX7 131 yX7_takeLetters, Cond.instanceMethod yX7_takeLetters, Cond.selects RX7 yX7_takeLetters yX7_takeLetters, Cond.code yX7_takeLetters cX7_takeLetters 6 (some .int), Cond.fieldLink RX7 165 "FurPosts" "letterCount" "I", Cond.fieldLink RX7 172 "FurPosts$Letter" "bag" "I", Cond.fieldLink RX7 175 "FurPosts$Canoe" "from" "I", Cond.fieldLink RX7 178 "FurPosts$Letter" "to" "I", Cond.fieldLink RX7 184 "FurPosts$Canoe" "to" "I", Cond.fieldLink RX7 185 "FurPosts$Letter" "carrier" "I", Cond.methodLink RX7 168 yX7_letterAt, Cond.instanceMethod yX7_letterAt, Cond.selects RX7 yX7_letterAt yX7_letterAt]
def wsL_law_r11 : List Cond := [Cond.code yX7_letterAt cX7_letterAt 2 (some (.object "FurPosts$Letter")), Cond.methodLink RX7 181 yX7_next, Cond.instanceMethod yX7_next, Cond.selects RX7 yX7_next yX7_next, Cond.code yX7_next cX7_next 4 (some .int), Cond.methodLink RL 37 yX8_send, Cond.instanceMethod yX8_send, Cond.selects RX8 yX8_send yX8_send, Cond.code yX8_send cX8_send 6 (some .int), Cond.fieldLink RX8 137 "FurPostsModel" "now" "I", Cond.fieldLink RX8 112 "FurPostsModel" "canoes" "I", Cond.fieldLink RX8 144 "FurPostsModel" "letters" "I", Cond.methodLink RX8 140 yX8_isOpen, Cond.instanceMethod yX8_isOpen, Cond.selects RX8 yX8_isOpen yX8_isOpen, Cond.code yX8_isOpen cX8_isOpen 3 (some .boolean), Cond.methodLink RX8 147 yX8_next, Cond.instanceMethod yX8_next, Cond.selects RX8 yX8_next yX8_next, Cond.code yX8_next cX8_next 5 (some .int), Cond.methodLink RL 38 yX7_lose, Cond.instanceMethod yX7_lose, Cond.selects RX7 yX7_lose yX7_lose, Cond.code yX7_lose cX7_lose 5 (some .int)]
def wsL_law_r12 : List Cond := [Cond.fieldLink RX7 142 "FurPosts$Canoe" "state" "I", Cond.fieldLink RX7 145 "FurPosts$Canoe" "daysToGo" "I", Cond.fieldLink RX7 148 "FurPosts$Canoe" "wares" "[I", Cond.methodLink RX7 138 yX7_canoeAt, Cond.instanceMethod yX7_canoeAt, Cond.selects RX7 yX7_canoeAt yX7_canoeAt, Cond.code yX7_canoeAt cX7_canoeAt 2 (some (.object "FurPosts$Canoe")), Cond.methodLink RX7 151 yX7_loseLetters, Cond.instanceMethod yX7_loseLetters, Cond.selects RX7 yX7_loseLetters yX7_loseLetters, Cond.code yX7_loseLetters cX7_loseLetters 4 none, Cond.classLink RX7 188 "FurPosts$Debt", Cond.fieldLink RX7 190 "FurPosts" "debtsLost" "I", Cond.methodLink RL 42 yX8_lose, Cond.instanceMethod yX8_lose, Cond.selects RX8 yX8_lose yX8_lose, Cond.code yX8_lose cX8_lose 4 (some .int), Cond.fieldLink RX8 156 "FurPostsModel" "debtsLost" "I", Cond.methodLink RX8 153 yX8_isAway, Cond.instanceMethod yX8_isAway, Cond.selects RX8 yX8_isAway yX8_isAway, Cond.code yX8_isAway cX8_isAway 2 (some .boolean), Cond.methodLink RX8 150 yX8_isCanoe, Cond.instanceMethod yX8_isCanoe]
def wsL_law_r13 : List Cond := [Cond.selects RX8 yX8_isCanoe yX8_isCanoe, Cond.code yX8_isCanoe cX8_isCanoe 2 (some .boolean), Cond.methodLink RL 43 yX7_spoil, Cond.instanceMethod yX7_spoil, Cond.selects RX7 yX7_spoil yX7_spoil, Cond.code yX7_spoil cX7_spoil 5 (some .boolean), Cond.fieldLink RX7 155 "FurPosts$Canoe" "spoilt" "Z", Cond.methodLink RL 47 yX8_spoil, Cond.instanceMethod yX8_spoil, Cond.selects RX8 yX8_spoil yX8_spoil, Cond.code yX8_spoil cX8_spoil 4 (some .boolean), Cond.methodLink RL 48 yX7_go, Cond.instanceMethod yX7_go, Cond.selects RX7 yX7_go yX7_go, Cond.code yX7_go cX7_go 4 (some .int), Cond.methodLink RX7 159 yX7_moveCanoe, Cond.instanceMethod yX7_moveCanoe, Cond.selects RX7 yX7_moveCanoe yX7_moveCanoe, Cond.code yX7_moveCanoe cX7_moveCanoe 5 none, Cond.fieldLink RX7 193 "FurPosts$Canoe" "way" "I", Cond.methodLink RX7 196 yX7_landCanoe, Cond.instanceMethod yX7_landCanoe, Cond.selects RX7 yX7_landCanoe yX7_landCanoe, Cond.code yX7_landCanoe cX7_landCanoe 4 none]
def wsL_law_r14 : List Cond := [Cond.fieldLink RX7 204 "FurPosts$Canoe" "dayCame" "I", Cond.methodLink RX7 200 yX7_landLetters, Cond.instanceMethod yX7_landLetters, Cond.selects RX7 yX7_landLetters yX7_landLetters, Cond.code yX7_landLetters cX7_landLetters 6 none, Cond.methodLink RX7 207 ⟨"FurPosts$Letter", "readAt", "(LFurPosts$Post;)V"⟩, Cond.sameMethod "FurPosts$Letter" "FurPosts$Letter" "readAt" "(LFurPosts$Post;)V", Cond.selects RX1 ⟨"FurPosts$Letter", "readAt", "(LFurPosts$Post;)V"⟩ yX1_readAt, Cond.instanceMethod yX1_readAt, Cond.initialized RX1, Cond.code yX1_readAt cX1_readAt 2 none, Cond.fieldLink RX1 7 "FurPosts$Debt" "hunter" "I", Cond.fieldLink RX1 22 "FurPosts$Post" "owed" "[I", Cond.fieldLink RX1 13 "FurPosts$Debt" "coins" "I", Cond.static yX7_isHunter, Cond.code yX7_isHunter cX7_isHunter 1 (some .boolean), Cond.selects RX3 ⟨"FurPosts$Letter", "readAt", "(LFurPosts$Post;)V"⟩ yX3_readAt, Cond.instanceMethod yX3_readAt, Cond.initialized RX3, Cond.code yX3_readAt cX3_readAt 2 none, Cond.fieldLink RX3 7 "FurPosts$Order" "ware" "I", Cond.fieldLink RX3 22 "FurPosts$Post" "prices" "[I", Cond.fieldLink RX3 13 "FurPosts$Order" "asked" "I", Cond.selects RX5 ⟨"FurPosts$Letter", "readAt", "(LFurPosts$Post;)V"⟩ yX5_readAt]
def wsL_law_r15 : List Cond := [Cond.instanceMethod yX5_readAt, Cond.initialized RX5, Cond.code yX5_readAt cX5_readAt 3 none, Cond.fieldLink RX5 19 "FurPosts$Report" "from" "I", Cond.sameField "FurPosts$Report" "FurPosts$Letter" "from" "I", Cond.fieldLink RX5 9 "FurPosts$Report" "day" "I", Cond.fieldLink RX5 28 "FurPosts$Post" "reports" "[LFurPosts$Report;", Cond.methodLink RX5 22 yX4_reportOf, Cond.instanceMethod yX4_reportOf, Cond.selects RX4 yX4_reportOf yX4_reportOf, Cond.code yX4_reportOf cX4_reportOf 2 (some (.object "FurPosts$Report")), Cond.methodLink RL 51 yX8_go, Cond.instanceMethod yX8_go, Cond.selects RX8 yX8_go yX8_go, Cond.code yX8_go cX8_go 4 (some .int), Cond.methodLink RX8 163 yX8_comes, Cond.instanceMethod yX8_comes, Cond.selects RX8 yX8_comes yX8_comes, Cond.code yX8_comes cX8_comes 4 none, Cond.methodLink RX8 159 yX8_reads, Cond.instanceMethod yX8_reads, Cond.selects RX8 yX8_reads yX8_reads, Cond.code yX8_reads cX8_reads 4 none, Cond.methodLink RL 52 yX7_sell]
def wsL_law_r16 : List Cond := [Cond.instanceMethod yX7_sell, Cond.selects RX7 yX7_sell yX7_sell, Cond.code yX7_sell cX7_sell 7 (some .int), Cond.fieldLink RX7 214 "FurPosts$Post" "owed" "[I", Cond.fieldLink RX7 217 "FurPosts$Post" "prices" "[I", Cond.methodLink RX7 211 yX7_isTrade, Cond.static yX7_isTrade, Cond.code yX7_isTrade cX7_isTrade 3 (some .boolean), Cond.methodLink RX7 221 yX7_isHunter, Cond.methodLink RL 55 yX8_sell, Cond.instanceMethod yX8_sell, Cond.selects RX8 yX8_sell yX8_sell, Cond.code yX8_sell cX8_sell 7 (some .int), Cond.methodLink RX8 166 yX8_isDeal, Cond.instanceMethod yX8_isDeal, Cond.selects RX8 yX8_isDeal yX8_isDeal, Cond.code yX8_isDeal cX8_isDeal 5 (some .boolean), Cond.methodLink RL 56 yX7_buy, Cond.instanceMethod yX7_buy, Cond.selects RX7 yX7_buy yX7_buy, Cond.code yX7_buy cX7_buy 7 (some .int), Cond.constant RX7 220 (-100000), Cond.methodLink RL 59 yX8_buy, Cond.instanceMethod yX8_buy]
def wsL_law_r17 : List Cond := [Cond.selects RX8 yX8_buy yX8_buy, Cond.code yX8_buy cX8_buy 7 (some .int), Cond.constant RX8 170 (-100000), Cond.methodLink RL 60 yX7_give, Cond.instanceMethod yX7_give, Cond.selects RX7 yX7_give yX7_give, Cond.code yX7_give cX7_give 6 (some .int), Cond.methodLink RL 63 yX8_give, Cond.instanceMethod yX8_give, Cond.selects RX8 yX8_give yX8_give, Cond.code yX8_give cX8_give 5 (some .int), Cond.methodLink RL 64 yX7_owes, Cond.instanceMethod yX7_owes, Cond.selects RX7 yX7_owes yX7_owes, Cond.code yX7_owes cX7_owes 4 (some .int), Cond.methodLink RL 67 yX8_owes, Cond.instanceMethod yX8_owes, Cond.selects RX8 yX8_owes yX8_owes, Cond.code yX8_owes cX8_owes 3 (some .int), Cond.methodLink RL 68 yX7_price, Cond.instanceMethod yX7_price, Cond.selects RX7 yX7_price yX7_price, Cond.code yX7_price cX7_price 4 (some .int), Cond.methodLink RL 71 yX8_price]
def wsL_law_r18 : List Cond := [Cond.instanceMethod yX8_price, Cond.selects RX8 yX8_price yX8_price, Cond.code yX8_price cX8_price 3 (some .int), Cond.methodLink RL 72 yX7_order, Cond.instanceMethod yX7_order, Cond.selects RX7 yX7_order yX7_order, Cond.code yX7_order cX7_order 5 (some .int), Cond.classLink RX7 227 RX3, Cond.instantiable RX3 6, Cond.methodLink RX7 224 yX7_canWrite, Cond.instanceMethod yX7_canWrite, Cond.selects RX7 yX7_canWrite yX7_canWrite, Cond.code yX7_canWrite cX7_canWrite 3 (some .boolean), Cond.methodLink RX7 229 yX3_init, Cond.instanceMethod yX3_init, Cond.code yX3_init cX3_init 5 none, Cond.methodLink RX3 1 yX2_init, Cond.instanceMethod yX2_init, Cond.initialized RX2, Cond.code yX2_init cX2_init 3 none, Cond.methodLink RX2 3 objectInit, Cond.fieldLink RX2 9 "FurPosts$Letter" "carrier" "I", Cond.fieldLink RX2 15 "FurPosts$Letter" "from" "I", Cond.fieldLink RX2 18 "FurPosts$Letter" "to" "I"]
def wsL_law_r19 : List Cond := [Cond.fieldLink RX2 21 "FurPosts$Letter" "bag" "I", Cond.methodLink RX7 232 yX7_putInBag, Cond.instanceMethod yX7_putInBag, Cond.selects RX7 yX7_putInBag yX7_putInBag, Cond.code yX7_putInBag cX7_putInBag 2 (some .int), Cond.methodLink RL 75 yX8_order, Cond.instanceMethod yX8_order, Cond.selects RX8 yX8_order yX8_order, Cond.code yX8_order cX8_order 5 (some .int), Cond.methodLink RX8 171 yX8_canWrite, Cond.instanceMethod yX8_canWrite, Cond.selects RX8 yX8_canWrite yX8_canWrite, Cond.code yX8_canWrite cX8_canWrite 3 (some .boolean), Cond.methodLink RX8 174 yX8_writes, Cond.instanceMethod yX8_writes, Cond.selects RX8 yX8_writes yX8_writes, Cond.code yX8_writes cX8_writes 6 (some .int), Cond.methodLink RL 76 yX7_debt, Cond.instanceMethod yX7_debt, Cond.selects RX7 yX7_debt yX7_debt, Cond.code yX7_debt cX7_debt 6 (some .int), Cond.classLink RX7 188 RX1, Cond.instantiable RX1 6, Cond.methodLink RX7 236 yX1_init]
def wsL_law_r20 : List Cond := [Cond.instanceMethod yX1_init, Cond.code yX1_init cX1_init 5 none, Cond.methodLink RX1 1 yX2_init, Cond.methodLink RL 79 yX8_debt, Cond.instanceMethod yX8_debt, Cond.selects RX8 yX8_debt yX8_debt, Cond.code yX8_debt cX8_debt 5 (some .int), Cond.methodLink RX8 178 yX8_owes, Cond.methodLink RL 80 yX7_report, Cond.instanceMethod yX7_report, Cond.selects RX7 yX7_report yX7_report, Cond.code yX7_report cX7_report 4 (some .int), Cond.classLink RX7 237 RX5, Cond.instantiable RX5 6, Cond.methodLink RX7 239 yX5_init, Cond.instanceMethod yX5_init, Cond.code yX5_init cX5_init 5 none, Cond.fieldLink RX5 15 "FurPosts$Report" "stock" "[I", Cond.methodLink RX5 3 yX2_init, Cond.methodLink RL 83 yX8_report, Cond.instanceMethod yX8_report, Cond.selects RX8 yX8_report yX8_report, Cond.code yX8_report cX8_report 5 (some .int), Cond.methodLink RL 84 yX7_known]
def wsL_law_r21 : List Cond := [Cond.instanceMethod yX7_known, Cond.selects RX7 yX7_known yX7_known, Cond.code yX7_known cX7_known 6 (some .int), Cond.fieldLink RX7 246 "FurPosts$Report" "stock" "[I", Cond.methodLink RX7 242 yX4_reportOf, Cond.methodLink RL 87 yX8_known, Cond.instanceMethod yX8_known, Cond.selects RX8 yX8_known yX8_known, Cond.code yX8_known cX8_known 5 (some .int), Cond.methodLink RL 88 yX7_knownDay, Cond.instanceMethod yX7_knownDay, Cond.selects RX7 yX7_knownDay yX7_knownDay, Cond.code yX7_knownDay cX7_knownDay 5 (some .int), Cond.fieldLink RX7 247 "FurPosts$Report" "day" "I", Cond.methodLink RL 91 yX8_knownDay, Cond.instanceMethod yX8_knownDay, Cond.selects RX8 yX8_knownDay yX8_knownDay, Cond.code yX8_knownDay cX8_knownDay 4 (some .int), Cond.methodLink RL 92 yX7_next, Cond.methodLink RL 95 yX8_next, Cond.methodLink RL 96 yX7_want, Cond.instanceMethod yX7_want, Cond.selects RX7 yX7_want yX7_want, Cond.code yX7_want cX7_want 4 (some .boolean)]
def wsL_law_r22 : List Cond := [Cond.methodLink RL 99 yX8_want, Cond.instanceMethod yX8_want, Cond.selects RX8 yX8_want yX8_want, Cond.code yX8_want cX8_want 4 (some .boolean), Cond.methodLink RL 100 yX7_indent, Cond.instanceMethod yX7_indent, Cond.selects RX7 yX7_indent yX7_indent, Cond.code yX7_indent cX7_indent 9 (some .int), Cond.methodLink RX7 250 yX7_cost, Cond.instanceMethod yX7_cost, Cond.selects RX7 yX7_cost yX7_cost, Cond.code yX7_cost cX7_cost 11 (some .int), Cond.methodLink RX7 254 yX7_areWantsRight, Cond.instanceMethod yX7_areWantsRight, Cond.selects RX7 yX7_areWantsRight yX7_areWantsRight, Cond.code yX7_areWantsRight cX7_areWantsRight 4 (some .boolean), Cond.methodLink RL 103 yX8_indent, Cond.instanceMethod yX8_indent, Cond.selects RX8 yX8_indent yX8_indent, Cond.code yX8_indent cX8_indent 8 (some .int), Cond.methodLink RX8 180 yX8_cost, Cond.instanceMethod yX8_cost, Cond.selects RX8 yX8_cost yX8_cost, Cond.code yX8_cost cX8_cost 10 (some .int)]
def wsL_law_r23 : List Cond := [Cond.methodLink RL 104 yX7_cost, Cond.methodLink RL 108 yX8_cost, Cond.methodLink RL 109 yX7_quarrel, Cond.instanceMethod yX7_quarrel, Cond.selects RX7 yX7_quarrel yX7_quarrel, Cond.code yX7_quarrel cX7_quarrel 5 (some .int), Cond.methodLink RX7 257 yX0_isBetween, Cond.instanceMethod yX0_isBetween, Cond.selects RX0 yX0_isBetween yX0_isBetween, Cond.code yX0_isBetween cX0_isBetween 3 (some .boolean), Cond.methodLink RX7 260 yX0_partsBooks, Cond.instanceMethod yX0_partsBooks, Cond.selects RX0 yX0_partsBooks yX0_partsBooks, Cond.code yX0_partsBooks cX0_partsBooks 1 (some .boolean), Cond.fieldLink RX0 45 "FurPosts$Canoe" "spoilt" "Z", Cond.methodLink RL 112 yX8_quarrel, Cond.instanceMethod yX8_quarrel, Cond.selects RX8 yX8_quarrel yX8_quarrel, Cond.code yX8_quarrel cX8_quarrel 5 (some .int), Cond.methodLink RL 113 yX7_canoe, Cond.instanceMethod yX7_canoe, Cond.selects RX7 yX7_canoe yX7_canoe, Cond.code yX7_canoe cX7_canoe 4 (some .int), Cond.fieldLink RX7 264 "FurPosts$Canoe" "waresSent" "[I"]
def wsL_law_r24 : List Cond := [Cond.fieldLink RX7 267 "FurPosts$Canoe" "daySent" "I", Cond.methodLink RL 116 yX8_canoe, Cond.instanceMethod yX8_canoe, Cond.selects RX8 yX8_canoe yX8_canoe, Cond.code yX8_canoe cX8_canoe 3 (some .int), Cond.methodLink RL 117 yX7_told, Cond.instanceMethod yX7_told, Cond.selects RX7 yX7_told yX7_told, Cond.code yX7_told cX7_told 4 (some .int), Cond.methodLink RX7 270 yX7_countBag, Cond.instanceMethod yX7_countBag, Cond.selects RX7 yX7_countBag yX7_countBag, Cond.code yX7_countBag cX7_countBag 5 (some .int), Cond.methodLink RX7 273 yX4_owedByAll, Cond.instanceMethod yX4_owedByAll, Cond.selects RX4 yX4_owedByAll yX4_owedByAll, Cond.code yX4_owedByAll cX4_owedByAll 3 (some .int), Cond.methodLink RL 120 yX8_told, Cond.instanceMethod yX8_told, Cond.selects RX8 yX8_told yX8_told, Cond.code yX8_told cX8_told 5 (some .int), Cond.methodLink RL 121 yX7_count, Cond.instanceMethod yX7_count, Cond.selects RX7 yX7_count yX7_count]
def wsL_law_r25 : List Cond := [Cond.code yX7_count cX7_count 3 (some .int), Cond.methodLink RX7 277 yX7_countOfAll, Cond.instanceMethod yX7_countOfAll, Cond.selects RX7 yX7_countOfAll yX7_countOfAll, Cond.code yX7_countOfAll cX7_countOfAll 2 (some .int), Cond.methodLink RL 124 yX8_count, Cond.instanceMethod yX8_count, Cond.selects RX8 yX8_count yX8_count, Cond.code yX8_count cX8_count 3 (some .int)]
def wsL_law : List Cond := (wsL_law_r1 ++ (wsL_law_r2 ++ (wsL_law_r3 ++ (wsL_law_r4 ++ (wsL_law_r5 ++ (wsL_law_r6 ++ (wsL_law_r7 ++ (wsL_law_r8 ++ (wsL_law_r9 ++ (wsL_law_r10 ++ (wsL_law_r11 ++ (wsL_law_r12 ++ (wsL_law_r13 ++ (wsL_law_r14 ++ (wsL_law_r15 ++ (wsL_law_r16 ++ (wsL_law_r17 ++ (wsL_law_r18 ++ (wsL_law_r19 ++ (wsL_law_r20 ++ (wsL_law_r21 ++ (wsL_law_r22 ++ (wsL_law_r23 ++ (wsL_law_r24 ++ wsL_law_r25)))))))))))))))))))))))) ++ wsX70 ++ wsX80 ++ wsX40 ++ wsX60 ++ wsX00 ++ wsX10 ++ wsX30 ++ wsX50 ++ ([] : List Cond)
end
section
/-! the words of the law among the tables' words, a list at a time -/
set_option maxRecDepth 20000 in
theorem wsL_law_r1_in : ∀ w ∈ wsL_law_r1, w ∈ lw_tbl := fun w h => (goodIn_r wsL_law_r1 [41, 42, 30, 522, 523, 32, 43, 44, 45, 46, 47, 48, 49, 62, 51, 63, 53, 64, 55, 65, 57, 105, 66, 67] (by decide +kernel) (by decide +kernel) w h).1
set_option maxRecDepth 20000 in
theorem wsL_law_r2_in : ∀ w ∈ wsL_law_r2, w ∈ lw_tbl := fun w h => (goodIn_r wsL_law_r2 [68, 69, 59, 60, 31, 61, 524, 525, 526, 527, 530, 531, 532, 534, 535, 536, 537, 538, 539, 540, 542, 543, 544, 545] (by decide +kernel) (by decide +kernel) w h).1
set_option maxRecDepth 20000 in
theorem wsL_law_r3_in : ∀ w ∈ wsL_law_r3, w ∈ lw_tbl := fun w h => (goodIn_r wsL_law_r3 [546, 547, 548, 549, 550, 551, 640, 552, 554, 555, 556, 557, 558, 559, 560, 561, 562, 564, 106, 107, 108, 109, 71, 110] (by decide +kernel) (by decide +kernel) w h).1
set_option maxRecDepth 20000 in
theorem wsL_law_r4_in : ∀ w ∈ wsL_law_r4, w ∈ lw_tbl := fun w h => (goodIn_r wsL_law_r4 [33, 111, 112, 113, 114, 118, 120, 123, 115, 126, 117, 641, 642, 643, 644, 529, 137, 138, 139, 140, 72, 152, 153, 34] (by decide +kernel) (by decide +kernel) w h).1
set_option maxRecDepth 20000 in
theorem wsL_law_r5_in : ∀ w ∈ wsL_law_r5, w ∈ lw_tbl := fun w h => (goodIn_r wsL_law_r5 [141, 143, 0, 144, 145, 147, 1, 148, 149, 150, 151, 154, 155, 156, 157, 158, 159, 160, 162, 163, 164, 179, 181, 2] (by decide +kernel) (by decide +kernel) w h).1
set_option maxRecDepth 20000 in
theorem wsL_law_r6_in : ∀ w ∈ wsL_law_r6, w ∈ lw_tbl := fun w h => (goodIn_r wsL_law_r6 [182, 183, 184, 35, 185, 645, 646, 647, 648, 649, 533, 650, 651, 652, 653, 655, 17, 656, 657, 659, 18, 660, 190, 191] (by decide +kernel) (by decide +kernel) w h).1
set_option maxRecDepth 20000 in
theorem wsL_law_r7_in : ∀ w ∈ wsL_law_r7, w ∈ lw_tbl := fun w h => (goodIn_r wsL_law_r7 [192, 193, 119, 197, 194, 195, 196, 661, 662, 663, 664, 672, 665, 666, 667, 668, 670, 19, 671, 673, 675, 20, 676, 198] (by decide +kernel) (by decide +kernel) w h).1
set_option maxRecDepth 20000 in
theorem wsL_law_r8_in : ∀ w ∈ wsL_law_r8, w ∈ lw_tbl := fun w h => (goodIn_r wsL_law_r8 [199, 200, 201, 677, 678, 679, 680, 202, 203, 204, 205, 70, 73, 223, 36, 161, 228, 229, 230, 231, 232, 234, 253, 206] (by decide +kernel) (by decide +kernel) w h).1
set_option maxRecDepth 20000 in
theorem wsL_law_r9_in : ∀ w ∈ wsL_law_r9, w ∈ lw_tbl := fun w h => (goodIn_r wsL_law_r9 [208, 3, 209, 210, 211, 212, 213, 214, 215, 216, 217, 219, 221, 4, 222, 165, 224, 225, 226, 227, 235, 236, 237, 238] (by decide +kernel) (by decide +kernel) w h).1
set_option maxRecDepth 20000 in
theorem wsL_law_r10_in : ∀ w ∈ wsL_law_r10, w ∈ lw_tbl := fun w h => (goodIn_r wsL_law_r10 [256, 258, 241, 243, 245, 254, 247, 249, 239, 240, 251, 285, 287, 5, 288, 74, 397, 242, 395, 244, 399, 289, 291, 6] (by decide +kernel) (by decide +kernel) w h).1
set_option maxRecDepth 20000 in
theorem wsL_law_r11_in : ∀ w ∈ wsL_law_r11, w ∈ lw_tbl := fun w h => (goodIn_r wsL_law_r11 [292, 293, 187, 188, 189, 681, 682, 683, 684, 528, 541, 553, 685, 687, 21, 688, 689, 690, 691, 692, 294, 295, 296, 297] (by decide +kernel) (by decide +kernel) w h).1
set_option maxRecDepth 20000 in
theorem wsL_law_r12_in : ∀ w ∈ wsL_law_r12, w ∈ lw_tbl := fun w h => (goodIn_r wsL_law_r12 [259, 255, 252, 298, 300, 7, 301, 302, 304, 8, 305, 306, 75, 693, 694, 695, 696, 563, 697, 699, 22, 700, 701, 703] (by decide +kernel) (by decide +kernel) w h).1
set_option maxRecDepth 20000 in
theorem wsL_law_r13_in : ∀ w ∈ wsL_law_r13, w ∈ lw_tbl := fun w h => (goodIn_r wsL_law_r13 [23, 704, 307, 308, 309, 310, 261, 705, 706, 707, 708, 311, 312, 313, 314, 315, 317, 9, 318, 246, 319, 321, 10, 322] (by decide +kernel) (by decide +kernel) w h).1
set_option maxRecDepth 20000 in
theorem wsL_law_r14_in : ∀ w ∈ wsL_law_r14, w ∈ lw_tbl := fun w h => (goodIn_r wsL_law_r14 [257, 323, 325, 11, 326, 327, 329, 330, 331, 39, 332, 426, 124, 427, 334, 335, 336, 337, 38, 338, 389, 121, 390, 340] (by decide +kernel) (by decide +kernel) w h).1
set_option maxRecDepth 20000 in
theorem wsL_law_r15_in : ∀ w ∈ wsL_law_r15, w ∈ lw_tbl := fun w h => (goodIn_r wsL_law_r15 [341, 40, 342, 392, 393, 447, 127, 343, 344, 345, 346, 709, 710, 711, 712, 713, 715, 24, 716, 717, 719, 25, 720, 347] (by decide +kernel) (by decide +kernel) w h).1
set_option maxRecDepth 20000 in
theorem wsL_law_r16_in : ∀ w ∈ wsL_law_r16, w ∈ lw_tbl := fun w h => (goodIn_r wsL_law_r16 [348, 349, 350, 125, 122, 351, 352, 353, 354, 721, 722, 723, 724, 725, 727, 26, 728, 355, 356, 357, 358, 359, 729, 730] (by decide +kernel) (by decide +kernel) w h).1
set_option maxRecDepth 20000 in
theorem wsL_law_r17_in : ∀ w ∈ wsL_law_r17, w ∈ lw_tbl := fun w h => (goodIn_r wsL_law_r17 [731, 732, 733, 360, 361, 362, 363, 734, 735, 736, 737, 364, 365, 366, 367, 738, 739, 740, 741, 368, 369, 370, 371, 742] (by decide +kernel) (by decide +kernel) w h).1
set_option maxRecDepth 20000 in
theorem wsL_law_r18_in : ∀ w ∈ wsL_law_r18, w ∈ lw_tbl := fun w h => (goodIn_r wsL_law_r18 [743, 744, 745, 372, 373, 374, 375, 380, 381, 376, 378, 12, 379, 382, 383, 384, 385, 386, 37, 387, 388, 398, 391, 394] (by decide +kernel) (by decide +kernel) w h).1
set_option maxRecDepth 20000 in
theorem wsL_law_r19_in : ∀ w ∈ wsL_law_r19, w ∈ lw_tbl := fun w h => (goodIn_r wsL_law_r19 [396, 413, 415, 13, 416, 746, 747, 748, 749, 750, 752, 27, 753, 754, 756, 28, 757, 417, 418, 419, 420, 306, 421, 422] (by decide +kernel) (by decide +kernel) w h).1
set_option maxRecDepth 20000 in
theorem wsL_law_r20_in : ∀ w ∈ wsL_law_r20, w ∈ lw_tbl := fun w h => (goodIn_r wsL_law_r20 [423, 424, 425, 758, 759, 760, 761, 762, 437, 438, 439, 440, 441, 442, 443, 444, 445, 449, 446, 763, 764, 765, 766, 460] (by decide +kernel) (by decide +kernel) w h).1
set_option maxRecDepth 20000 in
theorem wsL_law_r21_in : ∀ w ∈ wsL_law_r21, w ∈ lw_tbl := fun w h => (goodIn_r wsL_law_r21 [461, 462, 463, 450, 464, 767, 768, 769, 770, 465, 466, 467, 468, 448, 771, 772, 773, 774, 186, 775, 469, 470, 471, 472] (by decide +kernel) (by decide +kernel) w h).1
set_option maxRecDepth 20000 in
theorem wsL_law_r22_in : ∀ w ∈ wsL_law_r22, w ∈ lw_tbl := fun w h => (goodIn_r wsL_law_r22 [776, 777, 778, 779, 473, 474, 475, 476, 477, 478, 479, 480, 481, 483, 14, 484, 784, 785, 786, 787, 788, 781, 782, 783] (by decide +kernel) (by decide +kernel) w h).1
set_option maxRecDepth 20000 in
theorem wsL_law_r23_in : ∀ w ∈ wsL_law_r23, w ∈ lw_tbl := fun w h => (goodIn_r wsL_law_r23 [485, 780, 486, 487, 488, 489, 490, 491, 492, 493, 494, 495, 496, 497, 260, 789, 790, 791, 792, 498, 499, 500, 501, 250] (by decide +kernel) (by decide +kernel) w h).1
set_option maxRecDepth 20000 in
theorem wsL_law_r24_in : ∀ w ∈ wsL_law_r24, w ∈ lw_tbl := fun w h => (goodIn_r wsL_law_r24 [248, 793, 794, 795, 796, 502, 503, 504, 505, 506, 508, 15, 509, 510, 511, 512, 513, 797, 798, 799, 800, 514, 515, 516] (by decide +kernel) (by decide +kernel) w h).1
set_option maxRecDepth 20000 in
theorem wsL_law_r25_in : ∀ w ∈ wsL_law_r25, w ∈ lw_tbl := fun w h => (goodIn_r wsL_law_r25 [517, 518, 520, 16, 521, 801, 802, 803, 804] (by decide +kernel) (by decide +kernel) w h).1
set_option maxRecDepth 20000 in
theorem wsX70_in : ∀ w ∈ wsX70, w ∈ lw_tbl := fun w h => (goodIn_r wsX70 [76, 78, 80, 82, 84, 86, 88, 90, 92, 94, 96, 98, 100, 102] (by decide +kernel) (by decide +kernel) w h).1
set_option maxRecDepth 20000 in
theorem wsX80_in : ∀ w ∈ wsX80, w ∈ lw_tbl := fun w h => (goodIn_r wsX80 [565, 567, 569, 571, 573, 575, 577, 579, 581, 583, 585, 587, 589, 591, 593, 595, 597, 599, 601, 603, 605, 607, 609, 611, 613, 615, 617, 619, 621, 623, 625, 627, 629, 631, 633, 635, 637] (by decide +kernel) (by decide +kernel) w h).1
set_option maxRecDepth 20000 in
theorem wsX40_in : ∀ w ∈ wsX40, w ∈ lw_tbl := fun w h => (goodIn_r wsX40 [128, 130, 132, 134] (by decide +kernel) (by decide +kernel) w h).1
set_option maxRecDepth 20000 in
theorem wsX60_in : ∀ w ∈ wsX60, w ∈ lw_tbl := fun w h => (goodIn_r wsX60 [166, 168, 170, 172, 174, 176] (by decide +kernel) (by decide +kernel) w h).1
set_option maxRecDepth 20000 in
theorem wsX00_in : ∀ w ∈ wsX00, w ∈ lw_tbl := fun w h => (goodIn_r wsX00 [262, 264, 266, 268, 270, 272, 274, 276, 278, 280, 282] (by decide +kernel) (by decide +kernel) w h).1
set_option maxRecDepth 20000 in
theorem wsX10_in : ∀ w ∈ wsX10, w ∈ lw_tbl := fun w h => (goodIn_r wsX10 [432, 433, 434, 435, 428, 430] (by decide +kernel) (by decide +kernel) w h).1
set_option maxRecDepth 20000 in
theorem wsX30_in : ∀ w ∈ wsX30, w ∈ lw_tbl := fun w h => (goodIn_r wsX30 [404, 406, 408, 410, 400, 402] (by decide +kernel) (by decide +kernel) w h).1
set_option maxRecDepth 20000 in
theorem wsX50_in : ∀ w ∈ wsX50, w ∈ lw_tbl := fun w h => (goodIn_r wsX50 [455, 456, 457, 458, 451, 453] (by decide +kernel) (by decide +kernel) w h).1
theorem wsL_law_in : ∀ w ∈ wsL_law, w ∈ lw_tbl := List.forall_mem_append.mpr ⟨List.forall_mem_append.mpr ⟨List.forall_mem_append.mpr ⟨List.forall_mem_append.mpr ⟨List.forall_mem_append.mpr ⟨List.forall_mem_append.mpr ⟨List.forall_mem_append.mpr ⟨List.forall_mem_append.mpr ⟨List.forall_mem_append.mpr ⟨List.forall_mem_append.mpr ⟨wsL_law_r1_in, List.forall_mem_append.mpr ⟨wsL_law_r2_in, List.forall_mem_append.mpr ⟨wsL_law_r3_in, List.forall_mem_append.mpr ⟨wsL_law_r4_in, List.forall_mem_append.mpr ⟨wsL_law_r5_in, List.forall_mem_append.mpr ⟨wsL_law_r6_in, List.forall_mem_append.mpr ⟨wsL_law_r7_in, List.forall_mem_append.mpr ⟨wsL_law_r8_in, List.forall_mem_append.mpr ⟨wsL_law_r9_in, List.forall_mem_append.mpr ⟨wsL_law_r10_in, List.forall_mem_append.mpr ⟨wsL_law_r11_in, List.forall_mem_append.mpr ⟨wsL_law_r12_in, List.forall_mem_append.mpr ⟨wsL_law_r13_in, List.forall_mem_append.mpr ⟨wsL_law_r14_in, List.forall_mem_append.mpr ⟨wsL_law_r15_in, List.forall_mem_append.mpr ⟨wsL_law_r16_in, List.forall_mem_append.mpr ⟨wsL_law_r17_in, List.forall_mem_append.mpr ⟨wsL_law_r18_in, List.forall_mem_append.mpr ⟨wsL_law_r19_in, List.forall_mem_append.mpr ⟨wsL_law_r20_in, List.forall_mem_append.mpr ⟨wsL_law_r21_in, List.forall_mem_append.mpr ⟨wsL_law_r22_in, List.forall_mem_append.mpr ⟨wsL_law_r23_in, List.forall_mem_append.mpr ⟨wsL_law_r24_in, wsL_law_r25_in⟩⟩⟩⟩⟩⟩⟩⟩⟩⟩⟩⟩⟩⟩⟩⟩⟩⟩⟩⟩⟩⟩⟩⟩, wsX70_in⟩, wsX80_in⟩, wsX40_in⟩, wsX60_in⟩, wsX00_in⟩, wsX10_in⟩, wsX30_in⟩, wsX50_in⟩, fun _ h => absurd h List.not_mem_nil⟩
theorem inlX0 : ∀ w ∈ wsX00, w ∈ wsL_law := fun _ h => List.mem_append_left _ (List.mem_append_left _ (List.mem_append_left _ (List.mem_append_left _ (List.mem_append_right _ h))))
theorem inX0 : ∀ w ∈ wsX00, w ∈ lw_tbl := fun w h => wsL_law_in w (inlX0 w h)
theorem inlX1 : ∀ w ∈ wsX10, w ∈ wsL_law := fun _ h => List.mem_append_left _ (List.mem_append_left _ (List.mem_append_left _ (List.mem_append_right _ h)))
theorem inX1 : ∀ w ∈ wsX10, w ∈ lw_tbl := fun w h => wsL_law_in w (inlX1 w h)
theorem inX2 : ∀ w ∈ wsX20, w ∈ lw_tbl := by decide +kernel
theorem inlX3 : ∀ w ∈ wsX30, w ∈ wsL_law := fun _ h => List.mem_append_left _ (List.mem_append_left _ (List.mem_append_right _ h))
theorem inX3 : ∀ w ∈ wsX30, w ∈ lw_tbl := fun w h => wsL_law_in w (inlX3 w h)
theorem inlX4 : ∀ w ∈ wsX40, w ∈ wsL_law := fun _ h => List.mem_append_left _ (List.mem_append_left _ (List.mem_append_left _ (List.mem_append_left _ (List.mem_append_left _ (List.mem_append_left _ (List.mem_append_right _ h))))))
theorem inX4 : ∀ w ∈ wsX40, w ∈ lw_tbl := fun w h => wsL_law_in w (inlX4 w h)
theorem inlX5 : ∀ w ∈ wsX50, w ∈ wsL_law := fun _ h => List.mem_append_left _ (List.mem_append_right _ h)
theorem inX5 : ∀ w ∈ wsX50, w ∈ lw_tbl := fun w h => wsL_law_in w (inlX5 w h)
theorem inlX6 : ∀ w ∈ wsX60, w ∈ wsL_law := fun _ h => List.mem_append_left _ (List.mem_append_left _ (List.mem_append_left _ (List.mem_append_left _ (List.mem_append_left _ (List.mem_append_right _ h)))))
theorem inX6 : ∀ w ∈ wsX60, w ∈ lw_tbl := fun w h => wsL_law_in w (inlX6 w h)
theorem inlX7 : ∀ w ∈ wsX70, w ∈ wsL_law := fun _ h => List.mem_append_left _ (List.mem_append_left _ (List.mem_append_left _ (List.mem_append_left _ (List.mem_append_left _ (List.mem_append_left _ (List.mem_append_left _ (List.mem_append_left _ (List.mem_append_right _ h))))))))
theorem inX7 : ∀ w ∈ wsX70, w ∈ lw_tbl := fun w h => wsL_law_in w (inlX7 w h)
theorem inlX8 : ∀ w ∈ wsX80, w ∈ wsL_law := fun _ h => List.mem_append_left _ (List.mem_append_left _ (List.mem_append_left _ (List.mem_append_left _ (List.mem_append_left _ (List.mem_append_left _ (List.mem_append_left _ (List.mem_append_right _ h)))))))
theorem inX8 : ∀ w ∈ wsX80, w ∈ lw_tbl := fun w h => wsL_law_in w (inlX8 w h)
theorem inJx8e188 : ∀ w ∈ wsJx8e1880, w ∈ lw_tbl := by decide +kernel
theorem inJ9 : ∀ w ∈ wsJ90, w ∈ lw_tbl := by decide +kernel
theorem inJ7 : ∀ w ∈ wsJ70, w ∈ lw_tbl := by decide +kernel
end
section
theorem dX0_init_0 : decode cX0_init 0 = .ok (.aload_n 0, 1) := by decide +kernel
theorem dX0_init_1 : decode cX0_init 1 = .ok (.invokespecial 3, 3) := by decide +kernel
theorem dX0_init_4 : decode cX0_init 4 = .ok (.aload_n 0, 1) := by decide +kernel
theorem dX0_init_5 : decode cX0_init 5 = .ok (.iconst (-1), 1) := by decide +kernel
theorem dX0_init_6 : decode cX0_init 6 = .ok (.putfield 9, 3) := by decide +kernel
theorem dX0_init_9 : decode cX0_init 9 = .ok (.aload_n 0, 1) := by decide +kernel
theorem dX0_init_10 : decode cX0_init 10 = .ok (.iconst 0, 1) := by decide +kernel
theorem dX0_init_11 : decode cX0_init 11 = .ok (.putfield 15, 3) := by decide +kernel
theorem dX0_init_14 : decode cX0_init 14 = .ok (.aload_n 0, 1) := by decide +kernel
theorem dX0_init_15 : decode cX0_init 15 = .ok (.iload_n 1, 1) := by decide +kernel
theorem dX0_init_16 : decode cX0_init 16 = .ok (.putfield 18, 3) := by decide +kernel
theorem dX0_init_19 : decode cX0_init 19 = .ok (.aload_n 0, 1) := by decide +kernel
theorem dX0_init_20 : decode cX0_init 20 = .ok (.iload_n 2, 1) := by decide +kernel
theorem dX0_init_21 : decode cX0_init 21 = .ok (.putfield 21, 3) := by decide +kernel
theorem dX0_init_24 : decode cX0_init 24 = .ok (.aload_n 0, 1) := by decide +kernel
theorem dX0_init_25 : decode cX0_init 25 = .ok (.iload_n 3, 1) := by decide +kernel
theorem dX0_init_26 : decode cX0_init 26 = .ok (.putfield 24, 3) := by decide +kernel
theorem dX0_init_29 : decode cX0_init 29 = .ok (.aload_n 0, 1) := by decide +kernel
theorem dX0_init_30 : decode cX0_init 30 = .ok (.iload 4, 2) := by decide +kernel
theorem dX0_init_32 : decode cX0_init 32 = .ok (.putfield 27, 3) := by decide +kernel
theorem dX0_init_35 : decode cX0_init 35 = .ok (.aload_n 0, 1) := by decide +kernel
theorem dX0_init_36 : decode cX0_init 36 = .ok (.iload 5, 2) := by decide +kernel
theorem dX0_init_38 : decode cX0_init 38 = .ok (.putfield 30, 3) := by decide +kernel
theorem dX0_init_41 : decode cX0_init 41 = .ok (.aload_n 0, 1) := by decide +kernel
theorem dX0_init_42 : decode cX0_init 42 = .ok (.aload 6, 2) := by decide +kernel
theorem dX0_init_44 : decode cX0_init 44 = .ok (.putfield 33, 3) := by decide +kernel
theorem dX0_init_47 : decode cX0_init 47 = .ok (.aload_n 0, 1) := by decide +kernel
theorem dX0_init_48 : decode cX0_init 48 = .ok (.aload 6, 2) := by decide +kernel
theorem dX0_init_50 : decode cX0_init 50 = .ok (.invokevirtual 37, 3) := by decide +kernel
theorem dX0_init_53 : decode cX0_init 53 = .ok (.checkcast 38, 3) := by decide +kernel
theorem dX0_init_56 : decode cX0_init 56 = .ok (.putfield 42, 3) := by decide +kernel
theorem dX0_init_59 : decode cX0_init 59 = .ok (.return_, 1) := by decide +kernel
theorem dX0_isBetween_0 : decode cX0_isBetween 0 = .ok (.aload_n 0, 1) := by decide +kernel
theorem dX0_isBetween_1 : decode cX0_isBetween 1 = .ok (.getfield 18, 3) := by decide +kernel
theorem dX0_isBetween_4 : decode cX0_isBetween 4 = .ok (.iload_n 1, 1) := by decide +kernel
theorem dX0_isBetween_5 : decode cX0_isBetween 5 = .ok (.if_icmp .ne 11, 3) := by decide +kernel
theorem dX0_isBetween_8 : decode cX0_isBetween 8 = .ok (.aload_n 0, 1) := by decide +kernel
theorem dX0_isBetween_9 : decode cX0_isBetween 9 = .ok (.getfield 21, 3) := by decide +kernel
theorem dX0_isBetween_12 : decode cX0_isBetween 12 = .ok (.iload_n 2, 1) := by decide +kernel
theorem dX0_isBetween_13 : decode cX0_isBetween 13 = .ok (.if_icmp .eq 19, 3) := by decide +kernel
theorem dX0_isBetween_16 : decode cX0_isBetween 16 = .ok (.aload_n 0, 1) := by decide +kernel
theorem dX0_isBetween_17 : decode cX0_isBetween 17 = .ok (.getfield 18, 3) := by decide +kernel
theorem dX0_isBetween_20 : decode cX0_isBetween 20 = .ok (.iload_n 2, 1) := by decide +kernel
theorem dX0_isBetween_21 : decode cX0_isBetween 21 = .ok (.if_icmp .ne 15, 3) := by decide +kernel
theorem dX0_isBetween_24 : decode cX0_isBetween 24 = .ok (.aload_n 0, 1) := by decide +kernel
theorem dX0_isBetween_25 : decode cX0_isBetween 25 = .ok (.getfield 21, 3) := by decide +kernel
theorem dX0_isBetween_28 : decode cX0_isBetween 28 = .ok (.iload_n 1, 1) := by decide +kernel
theorem dX0_isBetween_29 : decode cX0_isBetween 29 = .ok (.if_icmp .ne 7, 3) := by decide +kernel
theorem dX0_isBetween_32 : decode cX0_isBetween 32 = .ok (.iconst 1, 1) := by decide +kernel
theorem dX0_isBetween_33 : decode cX0_isBetween 33 = .ok (.goto 4, 3) := by decide +kernel
theorem dX0_isBetween_36 : decode cX0_isBetween 36 = .ok (.iconst 0, 1) := by decide +kernel
theorem dX0_isBetween_37 : decode cX0_isBetween 37 = .ok (.ireturn, 1) := by decide +kernel
theorem dX0_partsBooks_0 : decode cX0_partsBooks 0 = .ok (.aload_n 0, 1) := by decide +kernel
theorem dX0_partsBooks_1 : decode cX0_partsBooks 1 = .ok (.getfield 15, 3) := by decide +kernel
theorem dX0_partsBooks_4 : decode cX0_partsBooks 4 = .ok (.iconst 2, 1) := by decide +kernel
theorem dX0_partsBooks_5 : decode cX0_partsBooks 5 = .ok (.if_icmp .eq 18, 3) := by decide +kernel
theorem dX0_partsBooks_8 : decode cX0_partsBooks 8 = .ok (.aload_n 0, 1) := by decide +kernel
theorem dX0_partsBooks_9 : decode cX0_partsBooks 9 = .ok (.getfield 15, 3) := by decide +kernel
theorem dX0_partsBooks_12 : decode cX0_partsBooks 12 = .ok (.iconst 1, 1) := by decide +kernel
theorem dX0_partsBooks_13 : decode cX0_partsBooks 13 = .ok (.if_icmp .ne 14, 3) := by decide +kernel
theorem dX0_partsBooks_16 : decode cX0_partsBooks 16 = .ok (.aload_n 0, 1) := by decide +kernel
theorem dX0_partsBooks_17 : decode cX0_partsBooks 17 = .ok (.getfield 45, 3) := by decide +kernel
theorem dX0_partsBooks_20 : decode cX0_partsBooks 20 = .ok (.ifCond .eq 7, 3) := by decide +kernel
theorem dX0_partsBooks_23 : decode cX0_partsBooks 23 = .ok (.iconst 1, 1) := by decide +kernel
theorem dX0_partsBooks_24 : decode cX0_partsBooks 24 = .ok (.goto 4, 3) := by decide +kernel
theorem dX0_partsBooks_27 : decode cX0_partsBooks 27 = .ok (.iconst 0, 1) := by decide +kernel
theorem dX0_partsBooks_28 : decode cX0_partsBooks 28 = .ok (.ireturn, 1) := by decide +kernel
set_option maxRecDepth 20000 in
theorem ggX1_init_X2_init : GoodIn wsX1_init wsX2_init := goodIn_r _ [6, 7, 8, 9, 10, 11, 12, 13, 14, 15, 16, 17, 18, 19, 20, 21, 22, 23, 24, 25, 26, 27, 28, 29, 30, 31] (by decide +kernel) (by decide +kernel)
set_option maxRecDepth 20000 in
theorem gX1_init_X2_init : GoodIn wsX1_init (wsX2_init) := ggX1_init_X2_init
theorem dX1_init_0 : decode cX1_init 0 = .ok (.aload_n 0, 1) := by decide +kernel
theorem dX1_init_1 : decode cX1_init 1 = .ok (.iload_n 1, 1) := by decide +kernel
theorem dX1_init_2 : decode cX1_init 2 = .ok (.iload_n 2, 1) := by decide +kernel
theorem dX1_init_3 : decode cX1_init 3 = .ok (.invokespecial 1, 3) := by decide +kernel
theorem dX1_init_6 : decode cX1_init 6 = .ok (.aload_n 0, 1) := by decide +kernel
theorem dX1_init_7 : decode cX1_init 7 = .ok (.iload_n 3, 1) := by decide +kernel
theorem dX1_init_8 : decode cX1_init 8 = .ok (.putfield 7, 3) := by decide +kernel
theorem dX1_init_11 : decode cX1_init 11 = .ok (.aload_n 0, 1) := by decide +kernel
theorem dX1_init_12 : decode cX1_init 12 = .ok (.iload 4, 2) := by decide +kernel
theorem dX1_init_14 : decode cX1_init 14 = .ok (.putfield 13, 3) := by decide +kernel
theorem dX1_init_17 : decode cX1_init 17 = .ok (.return_, 1) := by decide +kernel
set_option maxRecDepth 20000 in
theorem ggX1_readAt_X7_isHunter : GoodIn wsX1_readAt wsX7_isHunter := goodIn_r _ [6] (by decide +kernel) (by decide +kernel)
set_option maxRecDepth 20000 in
theorem gX1_readAt_X7_isHunter_n16 : GoodIn wsX1_readAt (wsX7_isHunter) := ggX1_readAt_X7_isHunter
theorem dX1_readAt_0 : decode cX1_readAt 0 = .ok (.aload_n 0, 1) := by decide +kernel
theorem dX1_readAt_1 : decode cX1_readAt 1 = .ok (.getfield 7, 3) := by decide +kernel
theorem dX1_readAt_4 : decode cX1_readAt 4 = .ok (.invokestatic 16, 3) := by decide +kernel
theorem dX1_readAt_7 : decode cX1_readAt 7 = .ok (.ifCond .eq 19, 3) := by decide +kernel
theorem dX1_readAt_10 : decode cX1_readAt 10 = .ok (.aload_n 1, 1) := by decide +kernel
theorem dX1_readAt_11 : decode cX1_readAt 11 = .ok (.getfield 22, 3) := by decide +kernel
theorem dX1_readAt_14 : decode cX1_readAt 14 = .ok (.aload_n 0, 1) := by decide +kernel
theorem dX1_readAt_15 : decode cX1_readAt 15 = .ok (.getfield 7, 3) := by decide +kernel
theorem dX1_readAt_18 : decode cX1_readAt 18 = .ok (.dup2, 1) := by decide +kernel
theorem dX1_readAt_19 : decode cX1_readAt 19 = .ok (.iaload, 1) := by decide +kernel
theorem dX1_readAt_20 : decode cX1_readAt 20 = .ok (.aload_n 0, 1) := by decide +kernel
theorem dX1_readAt_21 : decode cX1_readAt 21 = .ok (.getfield 13, 3) := by decide +kernel
theorem dX1_readAt_24 : decode cX1_readAt 24 = .ok (.iadd, 1) := by decide +kernel
theorem dX1_readAt_25 : decode cX1_readAt 25 = .ok (.iastore, 1) := by decide +kernel
theorem dX1_readAt_26 : decode cX1_readAt 26 = .ok (.return_, 1) := by decide +kernel
theorem dX2_init_0 : decode cX2_init 0 = .ok (.aload_n 0, 1) := by decide +kernel
theorem dX2_init_1 : decode cX2_init 1 = .ok (.invokespecial 3, 3) := by decide +kernel
theorem dX2_init_4 : decode cX2_init 4 = .ok (.aload_n 0, 1) := by decide +kernel
theorem dX2_init_5 : decode cX2_init 5 = .ok (.iconst (-1), 1) := by decide +kernel
theorem dX2_init_6 : decode cX2_init 6 = .ok (.putfield 9, 3) := by decide +kernel
theorem dX2_init_9 : decode cX2_init 9 = .ok (.aload_n 0, 1) := by decide +kernel
theorem dX2_init_10 : decode cX2_init 10 = .ok (.iload_n 1, 1) := by decide +kernel
theorem dX2_init_11 : decode cX2_init 11 = .ok (.putfield 15, 3) := by decide +kernel
theorem dX2_init_14 : decode cX2_init 14 = .ok (.aload_n 0, 1) := by decide +kernel
theorem dX2_init_15 : decode cX2_init 15 = .ok (.iload_n 2, 1) := by decide +kernel
theorem dX2_init_16 : decode cX2_init 16 = .ok (.putfield 18, 3) := by decide +kernel
theorem dX2_init_19 : decode cX2_init 19 = .ok (.aload_n 0, 1) := by decide +kernel
theorem dX2_init_20 : decode cX2_init 20 = .ok (.iload_n 1, 1) := by decide +kernel
theorem dX2_init_21 : decode cX2_init 21 = .ok (.putfield 21, 3) := by decide +kernel
theorem dX2_init_24 : decode cX2_init 24 = .ok (.return_, 1) := by decide +kernel
set_option maxRecDepth 20000 in
theorem ggX3_init_X2_init : GoodIn wsX3_init wsX2_init := goodIn_r _ [6, 7, 8, 9, 10, 11, 12, 13, 20, 21, 22, 23, 24, 25, 14, 15, 16, 17, 18, 19, 26, 27, 28, 29, 30, 31] (by decide +kernel) (by decide +kernel)
set_option maxRecDepth 20000 in
theorem gX3_init_X2_init : GoodIn wsX3_init (wsX2_init) := ggX3_init_X2_init
theorem dX3_init_0 : decode cX3_init 0 = .ok (.aload_n 0, 1) := by decide +kernel
theorem dX3_init_1 : decode cX3_init 1 = .ok (.iload_n 1, 1) := by decide +kernel
theorem dX3_init_2 : decode cX3_init 2 = .ok (.iload_n 2, 1) := by decide +kernel
theorem dX3_init_3 : decode cX3_init 3 = .ok (.invokespecial 1, 3) := by decide +kernel
theorem dX3_init_6 : decode cX3_init 6 = .ok (.aload_n 0, 1) := by decide +kernel
theorem dX3_init_7 : decode cX3_init 7 = .ok (.iload_n 3, 1) := by decide +kernel
theorem dX3_init_8 : decode cX3_init 8 = .ok (.putfield 7, 3) := by decide +kernel
theorem dX3_init_11 : decode cX3_init 11 = .ok (.aload_n 0, 1) := by decide +kernel
theorem dX3_init_12 : decode cX3_init 12 = .ok (.iload 4, 2) := by decide +kernel
theorem dX3_init_14 : decode cX3_init 14 = .ok (.putfield 13, 3) := by decide +kernel
theorem dX3_init_17 : decode cX3_init 17 = .ok (.return_, 1) := by decide +kernel
set_option maxRecDepth 20000 in
theorem ggX3_readAt_X7_isWare : GoodIn wsX3_readAt wsX7_isWare := goodIn_r _ [6] (by decide +kernel) (by decide +kernel)
set_option maxRecDepth 20000 in
theorem gX3_readAt_X7_isWare_n16 : GoodIn wsX3_readAt (wsX7_isWare) := ggX3_readAt_X7_isWare
theorem dX3_readAt_0 : decode cX3_readAt 0 = .ok (.aload_n 0, 1) := by decide +kernel
theorem dX3_readAt_1 : decode cX3_readAt 1 = .ok (.getfield 7, 3) := by decide +kernel
theorem dX3_readAt_4 : decode cX3_readAt 4 = .ok (.invokestatic 16, 3) := by decide +kernel
theorem dX3_readAt_7 : decode cX3_readAt 7 = .ok (.ifCond .eq 16, 3) := by decide +kernel
theorem dX3_readAt_10 : decode cX3_readAt 10 = .ok (.aload_n 1, 1) := by decide +kernel
theorem dX3_readAt_11 : decode cX3_readAt 11 = .ok (.getfield 22, 3) := by decide +kernel
theorem dX3_readAt_14 : decode cX3_readAt 14 = .ok (.aload_n 0, 1) := by decide +kernel
theorem dX3_readAt_15 : decode cX3_readAt 15 = .ok (.getfield 7, 3) := by decide +kernel
theorem dX3_readAt_18 : decode cX3_readAt 18 = .ok (.aload_n 0, 1) := by decide +kernel
theorem dX3_readAt_19 : decode cX3_readAt 19 = .ok (.getfield 13, 3) := by decide +kernel
theorem dX3_readAt_22 : decode cX3_readAt 22 = .ok (.iastore, 1) := by decide +kernel
theorem dX3_readAt_23 : decode cX3_readAt 23 = .ok (.return_, 1) := by decide +kernel
set_option maxRecDepth 20000 in
theorem ggX4_init_J7_fill_53178 : GoodIn wsX4_init wsJ7_fill_53178 := goodIn_r _ [13] (by decide +kernel) (by decide +kernel)
set_option maxRecDepth 20000 in
theorem gX4_init_J7_fill_53178 : GoodIn wsX4_init (va_wsS RX4 27 yJ7_fill_53178 wsJ7_fill_53178) := goodIn_app (goodIn_of _ (by decide +kernel)) ggX4_init_J7_fill_53178
theorem dX4_init_0 : decode cX4_init 0 = .ok (.aload_n 0, 1) := by decide +kernel
theorem dX4_init_1 : decode cX4_init 1 = .ok (.invokespecial 3, 3) := by decide +kernel
theorem dX4_init_4 : decode cX4_init 4 = .ok (.aload_n 0, 1) := by decide +kernel
theorem dX4_init_5 : decode cX4_init 5 = .ok (.bipush 6, 2) := by decide +kernel
theorem dX4_init_7 : decode cX4_init 7 = .ok (.newarray .int, 2) := by decide +kernel
theorem dX4_init_9 : decode cX4_init 9 = .ok (.putfield 9, 3) := by decide +kernel
theorem dX4_init_12 : decode cX4_init 12 = .ok (.aload_n 0, 1) := by decide +kernel
theorem dX4_init_13 : decode cX4_init 13 = .ok (.bipush 6, 2) := by decide +kernel
theorem dX4_init_15 : decode cX4_init 15 = .ok (.newarray .int, 2) := by decide +kernel
theorem dX4_init_17 : decode cX4_init 17 = .ok (.putfield 15, 3) := by decide +kernel
theorem dX4_init_20 : decode cX4_init 20 = .ok (.aload_n 0, 1) := by decide +kernel
theorem dX4_init_21 : decode cX4_init 21 = .ok (.bipush 12, 2) := by decide +kernel
theorem dX4_init_23 : decode cX4_init 23 = .ok (.newarray .int, 2) := by decide +kernel
theorem dX4_init_25 : decode cX4_init 25 = .ok (.putfield 18, 3) := by decide +kernel
theorem dX4_init_28 : decode cX4_init 28 = .ok (.aload_n 0, 1) := by decide +kernel
theorem dX4_init_29 : decode cX4_init 29 = .ok (.bipush 8, 2) := by decide +kernel
theorem dX4_init_31 : decode cX4_init 31 = .ok (.anewarray 21, 3) := by decide +kernel
theorem dX4_init_34 : decode cX4_init 34 = .ok (.putfield 23, 3) := by decide +kernel
theorem dX4_init_37 : decode cX4_init 37 = .ok (.aload_n 0, 1) := by decide +kernel
theorem dX4_init_38 : decode cX4_init 38 = .ok (.getfield 15, 3) := by decide +kernel
theorem dX4_init_41 : decode cX4_init 41 = .ok (.iconst 1, 1) := by decide +kernel
theorem dX4_init_42 : decode cX4_init 42 = .ok (.invokestatic 27, 3) := by decide +kernel
theorem dX4_init_45 : decode cX4_init 45 = .ok (.return_, 1) := by decide +kernel
theorem dX4_reportOf_0 : decode cX4_reportOf 0 = .ok (.iload_n 1, 1) := by decide +kernel
theorem dX4_reportOf_1 : decode cX4_reportOf 1 = .ok (.ifCond .lt 18, 3) := by decide +kernel
theorem dX4_reportOf_4 : decode cX4_reportOf 4 = .ok (.iload_n 1, 1) := by decide +kernel
theorem dX4_reportOf_5 : decode cX4_reportOf 5 = .ok (.bipush 8, 2) := by decide +kernel
theorem dX4_reportOf_7 : decode cX4_reportOf 7 = .ok (.if_icmp .ge 12, 3) := by decide +kernel
theorem dX4_reportOf_10 : decode cX4_reportOf 10 = .ok (.aload_n 0, 1) := by decide +kernel
theorem dX4_reportOf_11 : decode cX4_reportOf 11 = .ok (.getfield 23, 3) := by decide +kernel
theorem dX4_reportOf_14 : decode cX4_reportOf 14 = .ok (.iload_n 1, 1) := by decide +kernel
theorem dX4_reportOf_15 : decode cX4_reportOf 15 = .ok (.aaload, 1) := by decide +kernel
theorem dX4_reportOf_16 : decode cX4_reportOf 16 = .ok (.goto 4, 3) := by decide +kernel
theorem dX4_reportOf_19 : decode cX4_reportOf 19 = .ok (.aconst_null, 1) := by decide +kernel
theorem dX4_reportOf_20 : decode cX4_reportOf 20 = .ok (.areturn, 1) := by decide +kernel
theorem dX4_owedByAll_0 : decode cX4_owedByAll 0 = .ok (.iconst 0, 1) := by decide +kernel
theorem dX4_owedByAll_1 : decode cX4_owedByAll 1 = .ok (.istore_n 1, 1) := by decide +kernel
theorem dX4_owedByAll_2 : decode cX4_owedByAll 2 = .ok (.iconst 0, 1) := by decide +kernel
theorem dX4_owedByAll_3 : decode cX4_owedByAll 3 = .ok (.istore_n 2, 1) := by decide +kernel
theorem dX4_owedByAll_4 : decode cX4_owedByAll 4 = .ok (.iload_n 2, 1) := by decide +kernel
theorem dX4_owedByAll_5 : decode cX4_owedByAll 5 = .ok (.bipush 12, 2) := by decide +kernel
theorem dX4_owedByAll_7 : decode cX4_owedByAll 7 = .ok (.if_icmp .ge 18, 3) := by decide +kernel
theorem dX4_owedByAll_10 : decode cX4_owedByAll 10 = .ok (.iload_n 1, 1) := by decide +kernel
theorem dX4_owedByAll_11 : decode cX4_owedByAll 11 = .ok (.aload_n 0, 1) := by decide +kernel
theorem dX4_owedByAll_12 : decode cX4_owedByAll 12 = .ok (.getfield 18, 3) := by decide +kernel
theorem dX4_owedByAll_15 : decode cX4_owedByAll 15 = .ok (.iload_n 2, 1) := by decide +kernel
theorem dX4_owedByAll_16 : decode cX4_owedByAll 16 = .ok (.iaload, 1) := by decide +kernel
theorem dX4_owedByAll_17 : decode cX4_owedByAll 17 = .ok (.iadd, 1) := by decide +kernel
theorem dX4_owedByAll_18 : decode cX4_owedByAll 18 = .ok (.istore_n 1, 1) := by decide +kernel
theorem dX4_owedByAll_19 : decode cX4_owedByAll 19 = .ok (.iinc 2 1, 3) := by decide +kernel
theorem dX4_owedByAll_22 : decode cX4_owedByAll 22 = .ok (.goto (-18), 3) := by decide +kernel
theorem dX4_owedByAll_25 : decode cX4_owedByAll 25 = .ok (.iload_n 1, 1) := by decide +kernel
theorem dX4_owedByAll_26 : decode cX4_owedByAll 26 = .ok (.ireturn, 1) := by decide +kernel
set_option maxRecDepth 20000 in
theorem ggX5_init_X2_init : GoodIn wsX5_init wsX2_init := goodIn_r _ [6, 7, 8, 9, 10, 11, 12, 13, 20, 21, 22, 23, 24, 25, 26, 27, 28, 29, 30, 31, 14, 15, 16, 17, 18, 19] (by decide +kernel) (by decide +kernel)
set_option maxRecDepth 20000 in
theorem gX5_init_X2_init : GoodIn wsX5_init (wsX2_init) := ggX5_init_X2_init
theorem dX5_init_0 : decode cX5_init 0 = .ok (.aload_n 0, 1) := by decide +kernel
theorem dX5_init_1 : decode cX5_init 1 = .ok (.iload_n 1, 1) := by decide +kernel
theorem dX5_init_2 : decode cX5_init 2 = .ok (.iload_n 2, 1) := by decide +kernel
theorem dX5_init_3 : decode cX5_init 3 = .ok (.invokespecial 3, 3) := by decide +kernel
theorem dX5_init_6 : decode cX5_init 6 = .ok (.aload_n 0, 1) := by decide +kernel
theorem dX5_init_7 : decode cX5_init 7 = .ok (.iload_n 3, 1) := by decide +kernel
theorem dX5_init_8 : decode cX5_init 8 = .ok (.putfield 9, 3) := by decide +kernel
theorem dX5_init_11 : decode cX5_init 11 = .ok (.aload_n 0, 1) := by decide +kernel
theorem dX5_init_12 : decode cX5_init 12 = .ok (.aload 4, 2) := by decide +kernel
theorem dX5_init_14 : decode cX5_init 14 = .ok (.putfield 15, 3) := by decide +kernel
theorem dX5_init_17 : decode cX5_init 17 = .ok (.return_, 1) := by decide +kernel
set_option maxRecDepth 20000 in
theorem ggX5_readAt_X4_reportOf : GoodIn wsX5_readAt wsX4_reportOf := goodIn_r _ [9, 10, 29, 30, 31, 32] (by decide +kernel) (by decide +kernel)
set_option maxRecDepth 20000 in
theorem gX5_readAt_X4_reportOf : GoodIn wsX5_readAt (wsV RX5 22 RX4 yX4_reportOf wsX4_reportOf) := goodIn_app (goodIn_of _ (by decide +kernel)) ggX5_readAt_X4_reportOf
theorem dX5_readAt_0 : decode cX5_readAt 0 = .ok (.aload_n 1, 1) := by decide +kernel
theorem dX5_readAt_1 : decode cX5_readAt 1 = .ok (.aload_n 0, 1) := by decide +kernel
theorem dX5_readAt_2 : decode cX5_readAt 2 = .ok (.getfield 19, 3) := by decide +kernel
theorem dX5_readAt_5 : decode cX5_readAt 5 = .ok (.invokevirtual 22, 3) := by decide +kernel
theorem dX5_readAt_8 : decode cX5_readAt 8 = .ok (.astore_n 2, 1) := by decide +kernel
theorem dX5_readAt_9 : decode cX5_readAt 9 = .ok (.aload_n 0, 1) := by decide +kernel
theorem dX5_readAt_10 : decode cX5_readAt 10 = .ok (.getfield 19, 3) := by decide +kernel
theorem dX5_readAt_13 : decode cX5_readAt 13 = .ok (.ifCond .lt 37, 3) := by decide +kernel
theorem dX5_readAt_16 : decode cX5_readAt 16 = .ok (.aload_n 0, 1) := by decide +kernel
theorem dX5_readAt_17 : decode cX5_readAt 17 = .ok (.getfield 19, 3) := by decide +kernel
theorem dX5_readAt_20 : decode cX5_readAt 20 = .ok (.bipush 8, 2) := by decide +kernel
theorem dX5_readAt_22 : decode cX5_readAt 22 = .ok (.if_icmp .ge 28, 3) := by decide +kernel
theorem dX5_readAt_25 : decode cX5_readAt 25 = .ok (.aload_n 2, 1) := by decide +kernel
theorem dX5_readAt_26 : decode cX5_readAt 26 = .ok (.ifnull 14, 3) := by decide +kernel
theorem dX5_readAt_29 : decode cX5_readAt 29 = .ok (.aload_n 0, 1) := by decide +kernel
theorem dX5_readAt_30 : decode cX5_readAt 30 = .ok (.getfield 9, 3) := by decide +kernel
theorem dX5_readAt_33 : decode cX5_readAt 33 = .ok (.aload_n 2, 1) := by decide +kernel
theorem dX5_readAt_34 : decode cX5_readAt 34 = .ok (.getfield 9, 3) := by decide +kernel
theorem dX5_readAt_37 : decode cX5_readAt 37 = .ok (.if_icmp .lt 13, 3) := by decide +kernel
theorem dX5_readAt_40 : decode cX5_readAt 40 = .ok (.aload_n 1, 1) := by decide +kernel
theorem dX5_readAt_41 : decode cX5_readAt 41 = .ok (.getfield 28, 3) := by decide +kernel
theorem dX5_readAt_44 : decode cX5_readAt 44 = .ok (.aload_n 0, 1) := by decide +kernel
theorem dX5_readAt_45 : decode cX5_readAt 45 = .ok (.getfield 19, 3) := by decide +kernel
theorem dX5_readAt_48 : decode cX5_readAt 48 = .ok (.aload_n 0, 1) := by decide +kernel
theorem dX5_readAt_49 : decode cX5_readAt 49 = .ok (.aastore, 1) := by decide +kernel
theorem dX5_readAt_50 : decode cX5_readAt 50 = .ok (.return_, 1) := by decide +kernel
theorem dX6_init_0 : decode cX6_init 0 = .ok (.aload_n 0, 1) := by decide +kernel
theorem dX6_init_1 : decode cX6_init 1 = .ok (.invokespecial 3, 3) := by decide +kernel
theorem dX6_init_4 : decode cX6_init 4 = .ok (.aload_n 0, 1) := by decide +kernel
theorem dX6_init_5 : decode cX6_init 5 = .ok (.iload_n 1, 1) := by decide +kernel
theorem dX6_init_6 : decode cX6_init 6 = .ok (.putfield 9, 3) := by decide +kernel
theorem dX6_init_9 : decode cX6_init 9 = .ok (.aload_n 0, 1) := by decide +kernel
theorem dX6_init_10 : decode cX6_init 10 = .ok (.iload_n 2, 1) := by decide +kernel
theorem dX6_init_11 : decode cX6_init 11 = .ok (.putfield 15, 3) := by decide +kernel
theorem dX6_init_14 : decode cX6_init 14 = .ok (.aload_n 0, 1) := by decide +kernel
theorem dX6_init_15 : decode cX6_init 15 = .ok (.iload_n 3, 1) := by decide +kernel
theorem dX6_init_16 : decode cX6_init 16 = .ok (.putfield 18, 3) := by decide +kernel
theorem dX6_init_19 : decode cX6_init 19 = .ok (.aload_n 0, 1) := by decide +kernel
theorem dX6_init_20 : decode cX6_init 20 = .ok (.iload 4, 2) := by decide +kernel
theorem dX6_init_22 : decode cX6_init 22 = .ok (.putfield 21, 3) := by decide +kernel
theorem dX6_init_25 : decode cX6_init 25 = .ok (.aload_n 0, 1) := by decide +kernel
theorem dX6_init_26 : decode cX6_init 26 = .ok (.iload 5, 2) := by decide +kernel
theorem dX6_init_28 : decode cX6_init 28 = .ok (.putfield 24, 3) := by decide +kernel
theorem dX6_init_31 : decode cX6_init 31 = .ok (.aload_n 0, 1) := by decide +kernel
theorem dX6_init_32 : decode cX6_init 32 = .ok (.iload 6, 2) := by decide +kernel
theorem dX6_init_34 : decode cX6_init 34 = .ok (.putfield 27, 3) := by decide +kernel
theorem dX6_init_37 : decode cX6_init 37 = .ok (.return_, 1) := by decide +kernel
theorem dX6_startsAt_0 : decode cX6_startsAt 0 = .ok (.iload_n 1, 1) := by decide +kernel
theorem dX6_startsAt_1 : decode cX6_startsAt 1 = .ok (.aload_n 0, 1) := by decide +kernel
theorem dX6_startsAt_2 : decode cX6_startsAt 2 = .ok (.getfield 9, 3) := by decide +kernel
theorem dX6_startsAt_5 : decode cX6_startsAt 5 = .ok (.if_icmp .eq 11, 3) := by decide +kernel
theorem dX6_startsAt_8 : decode cX6_startsAt 8 = .ok (.iload_n 1, 1) := by decide +kernel
theorem dX6_startsAt_9 : decode cX6_startsAt 9 = .ok (.aload_n 0, 1) := by decide +kernel
theorem dX6_startsAt_10 : decode cX6_startsAt 10 = .ok (.getfield 15, 3) := by decide +kernel
theorem dX6_startsAt_13 : decode cX6_startsAt 13 = .ok (.if_icmp .ne 7, 3) := by decide +kernel
theorem dX6_startsAt_16 : decode cX6_startsAt 16 = .ok (.iconst 1, 1) := by decide +kernel
theorem dX6_startsAt_17 : decode cX6_startsAt 17 = .ok (.goto 4, 3) := by decide +kernel
theorem dX6_startsAt_20 : decode cX6_startsAt 20 = .ok (.iconst 0, 1) := by decide +kernel
theorem dX6_startsAt_21 : decode cX6_startsAt 21 = .ok (.ireturn, 1) := by decide +kernel
theorem dX6_otherEnd_0 : decode cX6_otherEnd 0 = .ok (.iload_n 1, 1) := by decide +kernel
theorem dX6_otherEnd_1 : decode cX6_otherEnd 1 = .ok (.aload_n 0, 1) := by decide +kernel
theorem dX6_otherEnd_2 : decode cX6_otherEnd 2 = .ok (.getfield 9, 3) := by decide +kernel
theorem dX6_otherEnd_5 : decode cX6_otherEnd 5 = .ok (.if_icmp .ne 10, 3) := by decide +kernel
theorem dX6_otherEnd_8 : decode cX6_otherEnd 8 = .ok (.aload_n 0, 1) := by decide +kernel
theorem dX6_otherEnd_9 : decode cX6_otherEnd 9 = .ok (.getfield 15, 3) := by decide +kernel
theorem dX6_otherEnd_12 : decode cX6_otherEnd 12 = .ok (.goto 7, 3) := by decide +kernel
theorem dX6_otherEnd_15 : decode cX6_otherEnd 15 = .ok (.aload_n 0, 1) := by decide +kernel
theorem dX6_otherEnd_16 : decode cX6_otherEnd 16 = .ok (.getfield 9, 3) := by decide +kernel
theorem dX6_otherEnd_19 : decode cX6_otherEnd 19 = .ok (.ireturn, 1) := by decide +kernel
set_option maxRecDepth 20000 in
theorem ggX6_isOpenOn_X7_isWithin : GoodIn wsX6_isOpenOn wsX7_isWithin := goodIn_r _ [5] (by decide +kernel) (by decide +kernel)
set_option maxRecDepth 20000 in
theorem gX6_isOpenOn_X7_isWithin_n30 : GoodIn wsX6_isOpenOn (wsX7_isWithin) := ggX6_isOpenOn_X7_isWithin
theorem dX6_isOpenOn_0 : decode cX6_isOpenOn 0 = .ok (.iload_n 1, 1) := by decide +kernel
theorem dX6_isOpenOn_1 : decode cX6_isOpenOn 1 = .ok (.sipush 365, 3) := by decide +kernel
theorem dX6_isOpenOn_4 : decode cX6_isOpenOn 4 = .ok (.irem, 1) := by decide +kernel
theorem dX6_isOpenOn_5 : decode cX6_isOpenOn 5 = .ok (.aload_n 0, 1) := by decide +kernel
theorem dX6_isOpenOn_6 : decode cX6_isOpenOn 6 = .ok (.getfield 21, 3) := by decide +kernel
theorem dX6_isOpenOn_9 : decode cX6_isOpenOn 9 = .ok (.aload_n 0, 1) := by decide +kernel
theorem dX6_isOpenOn_10 : decode cX6_isOpenOn 10 = .ok (.getfield 24, 3) := by decide +kernel
theorem dX6_isOpenOn_13 : decode cX6_isOpenOn 13 = .ok (.invokestatic 30, 3) := by decide +kernel
theorem dX6_isOpenOn_16 : decode cX6_isOpenOn 16 = .ok (.ireturn, 1) := by decide +kernel
set_option maxRecDepth 20000 in
theorem ggX7_init_J7_fill_53178 : GoodIn wsX7_init wsJ7_fill_53178 := goodIn_r _ [21] (by decide +kernel) (by decide +kernel)
set_option maxRecDepth 20000 in
theorem gX7_init_J7_fill_53178 : GoodIn wsX7_init (va_wsS RX7 48 yJ7_fill_53178 wsJ7_fill_53178) := goodIn_app (goodIn_of _ (by decide +kernel)) ggX7_init_J7_fill_53178
theorem dX7_init_0 : decode cX7_init 0 = .ok (.aload_n 0, 1) := by decide +kernel
theorem dX7_init_1 : decode cX7_init 1 = .ok (.invokespecial 1, 3) := by decide +kernel
theorem dX7_init_4 : decode cX7_init 4 = .ok (.aload_n 0, 1) := by decide +kernel
theorem dX7_init_5 : decode cX7_init 5 = .ok (.bipush 8, 2) := by decide +kernel
theorem dX7_init_7 : decode cX7_init 7 = .ok (.anewarray 9, 3) := by decide +kernel
theorem dX7_init_10 : decode cX7_init 10 = .ok (.putfield 11, 3) := by decide +kernel
theorem dX7_init_13 : decode cX7_init 13 = .ok (.aload_n 0, 1) := by decide +kernel
theorem dX7_init_14 : decode cX7_init 14 = .ok (.bipush 12, 2) := by decide +kernel
theorem dX7_init_16 : decode cX7_init 16 = .ok (.anewarray 15, 3) := by decide +kernel
theorem dX7_init_19 : decode cX7_init 19 = .ok (.putfield 17, 3) := by decide +kernel
theorem dX7_init_22 : decode cX7_init 22 = .ok (.aload_n 0, 1) := by decide +kernel
theorem dX7_init_23 : decode cX7_init 23 = .ok (.bipush 120, 2) := by decide +kernel
theorem dX7_init_25 : decode cX7_init 25 = .ok (.anewarray 21, 3) := by decide +kernel
theorem dX7_init_28 : decode cX7_init 28 = .ok (.putfield 23, 3) := by decide +kernel
theorem dX7_init_31 : decode cX7_init 31 = .ok (.aload_n 0, 1) := by decide +kernel
theorem dX7_init_32 : decode cX7_init 32 = .ok (.sipush 300, 3) := by decide +kernel
theorem dX7_init_35 : decode cX7_init 35 = .ok (.anewarray 27, 3) := by decide +kernel
theorem dX7_init_38 : decode cX7_init 38 = .ok (.putfield 29, 3) := by decide +kernel
theorem dX7_init_41 : decode cX7_init 41 = .ok (.aload_n 0, 1) := by decide +kernel
theorem dX7_init_42 : decode cX7_init 42 = .ok (.bipush 8, 2) := by decide +kernel
theorem dX7_init_44 : decode cX7_init 44 = .ok (.bipush 8, 2) := by decide +kernel
theorem dX7_init_46 : decode cX7_init 46 = .ok (.multianewarray 33 2, 4) := by decide +kernel
theorem dX7_init_50 : decode cX7_init 50 = .ok (.putfield 35, 3) := by decide +kernel
theorem dX7_init_53 : decode cX7_init 53 = .ok (.aload_n 0, 1) := by decide +kernel
theorem dX7_init_54 : decode cX7_init 54 = .ok (.bipush 6, 2) := by decide +kernel
theorem dX7_init_56 : decode cX7_init 56 = .ok (.bipush 21, 2) := by decide +kernel
theorem dX7_init_58 : decode cX7_init 58 = .ok (.multianewarray 33 2, 4) := by decide +kernel
theorem dX7_init_62 : decode cX7_init 62 = .ok (.putfield 38, 3) := by decide +kernel
theorem dX7_init_65 : decode cX7_init 65 = .ok (.aload_n 0, 1) := by decide +kernel
theorem dX7_init_66 : decode cX7_init 66 = .ok (.bipush 6, 2) := by decide +kernel
theorem dX7_init_68 : decode cX7_init 68 = .ok (.bipush 6, 2) := by decide +kernel
theorem dX7_init_70 : decode cX7_init 70 = .ok (.multianewarray 33 2, 4) := by decide +kernel
theorem dX7_init_74 : decode cX7_init 74 = .ok (.putfield 41, 3) := by decide +kernel
theorem dX7_init_77 : decode cX7_init 77 = .ok (.aload_n 0, 1) := by decide +kernel
theorem dX7_init_78 : decode cX7_init 78 = .ok (.bipush 6, 2) := by decide +kernel
theorem dX7_init_80 : decode cX7_init 80 = .ok (.newarray .int, 2) := by decide +kernel
theorem dX7_init_82 : decode cX7_init 82 = .ok (.putfield 44, 3) := by decide +kernel
theorem dX7_init_85 : decode cX7_init 85 = .ok (.iconst 0, 1) := by decide +kernel
theorem dX7_init_86 : decode cX7_init 86 = .ok (.istore_n 1, 1) := by decide +kernel
theorem dX7_init_87 : decode cX7_init 87 = .ok (.iload_n 1, 1) := by decide +kernel
theorem dX7_init_88 : decode cX7_init 88 = .ok (.bipush 8, 2) := by decide +kernel
theorem dX7_init_90 : decode cX7_init 90 = .ok (.if_icmp .ge 29, 3) := by decide +kernel
theorem dX7_init_93 : decode cX7_init 93 = .ok (.aload_n 0, 1) := by decide +kernel
theorem dX7_init_94 : decode cX7_init 94 = .ok (.getfield 35, 3) := by decide +kernel
theorem dX7_init_97 : decode cX7_init 97 = .ok (.iload_n 1, 1) := by decide +kernel
theorem dX7_init_98 : decode cX7_init 98 = .ok (.aaload, 1) := by decide +kernel
theorem dX7_init_99 : decode cX7_init 99 = .ok (.bipush 100, 2) := by decide +kernel
theorem dX7_init_101 : decode cX7_init 101 = .ok (.invokestatic 48, 3) := by decide +kernel
theorem dX7_init_104 : decode cX7_init 104 = .ok (.aload_n 0, 1) := by decide +kernel
theorem dX7_init_105 : decode cX7_init 105 = .ok (.getfield 35, 3) := by decide +kernel
theorem dX7_init_108 : decode cX7_init 108 = .ok (.iload_n 1, 1) := by decide +kernel
theorem dX7_init_109 : decode cX7_init 109 = .ok (.aaload, 1) := by decide +kernel
theorem dX7_init_110 : decode cX7_init 110 = .ok (.iload_n 1, 1) := by decide +kernel
theorem dX7_init_111 : decode cX7_init 111 = .ok (.iconst 0, 1) := by decide +kernel
theorem dX7_init_112 : decode cX7_init 112 = .ok (.iastore, 1) := by decide +kernel
theorem dX7_init_113 : decode cX7_init 113 = .ok (.iinc 1 1, 3) := by decide +kernel
theorem dX7_init_116 : decode cX7_init 116 = .ok (.goto (-29), 3) := by decide +kernel
theorem dX7_init_119 : decode cX7_init 119 = .ok (.return_, 1) := by decide +kernel
set_option maxRecDepth 20000 in
theorem ggX7_post_X4_init : GoodIn wsX7_post wsX4_init := goodIn_r _ [8, 9, 10, 11, 12, 13, 14, 15, 16, 17, 18, 19, 20, 21, 36, 37, 38, 39] (by decide +kernel) (by decide +kernel)
set_option maxRecDepth 20000 in
theorem gX7_post_X4_init : GoodIn wsX7_post (wsX4_init) := ggX7_post_X4_init
theorem dX7_post_0 : decode cX7_post 0 = .ok (.aload_n 0, 1) := by decide +kernel
theorem dX7_post_1 : decode cX7_post 1 = .ok (.getfield 54, 3) := by decide +kernel
theorem dX7_post_4 : decode cX7_post 4 = .ok (.bipush 8, 2) := by decide +kernel
theorem dX7_post_6 : decode cX7_post 6 = .ok (.if_icmp .lt 5, 3) := by decide +kernel
theorem dX7_post_9 : decode cX7_post 9 = .ok (.iconst (-1), 1) := by decide +kernel
theorem dX7_post_10 : decode cX7_post 10 = .ok (.ireturn, 1) := by decide +kernel
theorem dX7_post_11 : decode cX7_post 11 = .ok (.aload_n 0, 1) := by decide +kernel
theorem dX7_post_12 : decode cX7_post 12 = .ok (.getfield 11, 3) := by decide +kernel
theorem dX7_post_15 : decode cX7_post 15 = .ok (.aload_n 0, 1) := by decide +kernel
theorem dX7_post_16 : decode cX7_post 16 = .ok (.getfield 54, 3) := by decide +kernel
theorem dX7_post_19 : decode cX7_post 19 = .ok (.new 9, 3) := by decide +kernel
theorem dX7_post_22 : decode cX7_post 22 = .ok (.dup, 1) := by decide +kernel
theorem dX7_post_23 : decode cX7_post 23 = .ok (.invokespecial 58, 3) := by decide +kernel
theorem dX7_post_26 : decode cX7_post 26 = .ok (.aastore, 1) := by decide +kernel
theorem dX7_post_27 : decode cX7_post 27 = .ok (.aload_n 0, 1) := by decide +kernel
theorem dX7_post_28 : decode cX7_post 28 = .ok (.dup, 1) := by decide +kernel
theorem dX7_post_29 : decode cX7_post 29 = .ok (.getfield 54, 3) := by decide +kernel
theorem dX7_post_32 : decode cX7_post 32 = .ok (.iconst 1, 1) := by decide +kernel
theorem dX7_post_33 : decode cX7_post 33 = .ok (.iadd, 1) := by decide +kernel
theorem dX7_post_34 : decode cX7_post 34 = .ok (.putfield 54, 3) := by decide +kernel
theorem dX7_post_37 : decode cX7_post 37 = .ok (.aload_n 0, 1) := by decide +kernel
theorem dX7_post_38 : decode cX7_post 38 = .ok (.getfield 54, 3) := by decide +kernel
theorem dX7_post_41 : decode cX7_post 41 = .ok (.iconst 1, 1) := by decide +kernel
theorem dX7_post_42 : decode cX7_post 42 = .ok (.isub, 1) := by decide +kernel
theorem dX7_post_43 : decode cX7_post 43 = .ok (.ireturn, 1) := by decide +kernel
set_option maxRecDepth 20000 in
theorem ggX7_way_X7_areTwoPosts : GoodIn wsX7_way wsX7_areTwoPosts := goodIn_r _ [12, 13, 14, 15, 11, 16, 17, 41, 42, 43, 44, 45, 46, 47, 48, 49, 50, 51, 52, 53, 54] (by decide +kernel) (by decide +kernel)
set_option maxRecDepth 20000 in
theorem gX7_way_X7_areTwoPosts : GoodIn wsX7_way (wsV RX7 59 RX7 yX7_areTwoPosts wsX7_areTwoPosts) := goodIn_app (goodIn_of _ (by decide +kernel)) ggX7_way_X7_areTwoPosts
set_option maxRecDepth 20000 in
theorem ggX7_way_X7_isWithin : GoodIn wsX7_way wsX7_isWithin := goodIn_r _ [20] (by decide +kernel) (by decide +kernel)
set_option maxRecDepth 20000 in
theorem gX7_way_X7_isWithin : GoodIn wsX7_way (va_wsS RX7 66 yX7_isWithin wsX7_isWithin) := goodIn_app (goodIn_of _ (by decide +kernel)) ggX7_way_X7_isWithin
set_option maxRecDepth 20000 in
theorem ggX7_way_X6_init : GoodIn wsX7_way wsX6_init := goodIn_r _ [23, 24, 25, 26, 27, 28, 29, 30, 31, 32, 55, 56, 57, 58, 59, 60] (by decide +kernel) (by decide +kernel)
set_option maxRecDepth 20000 in
theorem gX7_way_X6_init : GoodIn wsX7_way (wsX6_init) := ggX7_way_X6_init
set_option maxRecDepth 20000 in
theorem ggX7_way_X7_shortenDistances : GoodIn wsX7_way wsX7_shortenDistances := goodIn_r _ [36, 1, 37, 38, 39, 40, 41, 42, 43, 44, 45, 46, 47, 48, 49, 50, 51, 52, 53, 54] (by decide +kernel) (by decide +kernel)
set_option maxRecDepth 20000 in
theorem gX7_way_X7_shortenDistances : GoodIn wsX7_way (wsV RX7 74 RX7 yX7_shortenDistances wsX7_shortenDistances) := goodIn_app (goodIn_of _ (by decide +kernel)) ggX7_way_X7_shortenDistances
theorem dX7_way_0 : decode cX7_way 0 = .ok (.aload_n 0, 1) := by decide +kernel
theorem dX7_way_1 : decode cX7_way 1 = .ok (.iload_n 1, 1) := by decide +kernel
theorem dX7_way_2 : decode cX7_way 2 = .ok (.iload_n 2, 1) := by decide +kernel
theorem dX7_way_3 : decode cX7_way 3 = .ok (.invokevirtual 59, 3) := by decide +kernel
theorem dX7_way_6 : decode cX7_way 6 = .ok (.ifCond .eq 24, 3) := by decide +kernel
theorem dX7_way_9 : decode cX7_way 9 = .ok (.aload_n 0, 1) := by decide +kernel
theorem dX7_way_10 : decode cX7_way 10 = .ok (.getfield 35, 3) := by decide +kernel
theorem dX7_way_13 : decode cX7_way 13 = .ok (.iload_n 1, 1) := by decide +kernel
theorem dX7_way_14 : decode cX7_way 14 = .ok (.aaload, 1) := by decide +kernel
theorem dX7_way_15 : decode cX7_way 15 = .ok (.iload_n 2, 1) := by decide +kernel
theorem dX7_way_16 : decode cX7_way 16 = .ok (.iaload, 1) := by decide +kernel
theorem dX7_way_17 : decode cX7_way 17 = .ok (.iconst 1, 1) := by decide +kernel
theorem dX7_way_18 : decode cX7_way 18 = .ok (.if_icmp .eq 12, 3) := by decide +kernel
theorem dX7_way_21 : decode cX7_way 21 = .ok (.aload_n 0, 1) := by decide +kernel
theorem dX7_way_22 : decode cX7_way 22 = .ok (.getfield 63, 3) := by decide +kernel
theorem dX7_way_25 : decode cX7_way 25 = .ok (.bipush 12, 2) := by decide +kernel
theorem dX7_way_27 : decode cX7_way 27 = .ok (.if_icmp .lt 5, 3) := by decide +kernel
theorem dX7_way_30 : decode cX7_way 30 = .ok (.iconst (-1), 1) := by decide +kernel
theorem dX7_way_31 : decode cX7_way 31 = .ok (.ireturn, 1) := by decide +kernel
theorem dX7_way_32 : decode cX7_way 32 = .ok (.iload_n 3, 1) := by decide +kernel
theorem dX7_way_33 : decode cX7_way 33 = .ok (.ifCond .lt 15, 3) := by decide +kernel
theorem dX7_way_36 : decode cX7_way 36 = .ok (.iload 4, 2) := by decide +kernel
theorem dX7_way_38 : decode cX7_way 38 = .ok (.iconst 1, 1) := by decide +kernel
theorem dX7_way_39 : decode cX7_way 39 = .ok (.sipush 500, 3) := by decide +kernel
theorem dX7_way_42 : decode cX7_way 42 = .ok (.invokestatic 66, 3) := by decide +kernel
theorem dX7_way_45 : decode cX7_way 45 = .ok (.ifCond .ne 5, 3) := by decide +kernel
theorem dX7_way_48 : decode cX7_way 48 = .ok (.iconst (-1), 1) := by decide +kernel
theorem dX7_way_49 : decode cX7_way 49 = .ok (.ireturn, 1) := by decide +kernel
theorem dX7_way_50 : decode cX7_way 50 = .ok (.iload_n 3, 1) := by decide +kernel
theorem dX7_way_51 : decode cX7_way 51 = .ok (.ldc 70, 2) := by decide +kernel
theorem dX7_way_53 : decode cX7_way 53 = .ok (.idiv, 1) := by decide +kernel
theorem dX7_way_54 : decode cX7_way 54 = .ok (.istore 5, 2) := by decide +kernel
theorem dX7_way_56 : decode cX7_way 56 = .ok (.iload_n 3, 1) := by decide +kernel
theorem dX7_way_57 : decode cX7_way 57 = .ok (.sipush 1000, 3) := by decide +kernel
theorem dX7_way_60 : decode cX7_way 60 = .ok (.idiv, 1) := by decide +kernel
theorem dX7_way_61 : decode cX7_way 61 = .ok (.sipush 1000, 3) := by decide +kernel
theorem dX7_way_64 : decode cX7_way 64 = .ok (.irem, 1) := by decide +kernel
theorem dX7_way_65 : decode cX7_way 65 = .ok (.istore 6, 2) := by decide +kernel
theorem dX7_way_67 : decode cX7_way 67 = .ok (.iload_n 3, 1) := by decide +kernel
theorem dX7_way_68 : decode cX7_way 68 = .ok (.sipush 1000, 3) := by decide +kernel
theorem dX7_way_71 : decode cX7_way 71 = .ok (.irem, 1) := by decide +kernel
theorem dX7_way_72 : decode cX7_way 72 = .ok (.istore 7, 2) := by decide +kernel
theorem dX7_way_74 : decode cX7_way 74 = .ok (.iload 5, 2) := by decide +kernel
theorem dX7_way_76 : decode cX7_way 76 = .ok (.iconst 1, 1) := by decide +kernel
theorem dX7_way_77 : decode cX7_way 77 = .ok (.bipush 40, 2) := by decide +kernel
theorem dX7_way_79 : decode cX7_way 79 = .ok (.invokestatic 66, 3) := by decide +kernel
theorem dX7_way_82 : decode cX7_way 82 = .ok (.ifCond .eq 18, 3) := by decide +kernel
theorem dX7_way_85 : decode cX7_way 85 = .ok (.iload 6, 2) := by decide +kernel
theorem dX7_way_87 : decode cX7_way 87 = .ok (.iload 7, 2) := by decide +kernel
theorem dX7_way_89 : decode cX7_way 89 = .ok (.if_icmp .gt 11, 3) := by decide +kernel
theorem dX7_way_92 : decode cX7_way 92 = .ok (.iload 7, 2) := by decide +kernel
theorem dX7_way_94 : decode cX7_way 94 = .ok (.sipush 365, 3) := by decide +kernel
theorem dX7_way_97 : decode cX7_way 97 = .ok (.if_icmp .lt 5, 3) := by decide +kernel
theorem dX7_way_100 : decode cX7_way 100 = .ok (.iconst (-1), 1) := by decide +kernel
theorem dX7_way_101 : decode cX7_way 101 = .ok (.ireturn, 1) := by decide +kernel
theorem dX7_way_102 : decode cX7_way 102 = .ok (.aload_n 0, 1) := by decide +kernel
theorem dX7_way_103 : decode cX7_way 103 = .ok (.getfield 17, 3) := by decide +kernel
theorem dX7_way_106 : decode cX7_way 106 = .ok (.aload_n 0, 1) := by decide +kernel
theorem dX7_way_107 : decode cX7_way 107 = .ok (.getfield 63, 3) := by decide +kernel
theorem dX7_way_110 : decode cX7_way 110 = .ok (.new 15, 3) := by decide +kernel
theorem dX7_way_113 : decode cX7_way 113 = .ok (.dup, 1) := by decide +kernel
theorem dX7_way_114 : decode cX7_way 114 = .ok (.iload_n 1, 1) := by decide +kernel
theorem dX7_way_115 : decode cX7_way 115 = .ok (.iload_n 2, 1) := by decide +kernel
theorem dX7_way_116 : decode cX7_way 116 = .ok (.iload 5, 2) := by decide +kernel
theorem dX7_way_118 : decode cX7_way 118 = .ok (.iload 6, 2) := by decide +kernel
theorem dX7_way_120 : decode cX7_way 120 = .ok (.iload 7, 2) := by decide +kernel
theorem dX7_way_122 : decode cX7_way 122 = .ok (.iload 4, 2) := by decide +kernel
theorem dX7_way_124 : decode cX7_way 124 = .ok (.invokespecial 71, 3) := by decide +kernel
theorem dX7_way_127 : decode cX7_way 127 = .ok (.aastore, 1) := by decide +kernel
theorem dX7_way_128 : decode cX7_way 128 = .ok (.aload_n 0, 1) := by decide +kernel
theorem dX7_way_129 : decode cX7_way 129 = .ok (.dup, 1) := by decide +kernel
theorem dX7_way_130 : decode cX7_way 130 = .ok (.getfield 63, 3) := by decide +kernel
theorem dX7_way_133 : decode cX7_way 133 = .ok (.iconst 1, 1) := by decide +kernel
theorem dX7_way_134 : decode cX7_way 134 = .ok (.iadd, 1) := by decide +kernel
theorem dX7_way_135 : decode cX7_way 135 = .ok (.putfield 63, 3) := by decide +kernel
theorem dX7_way_138 : decode cX7_way 138 = .ok (.aload_n 0, 1) := by decide +kernel
theorem dX7_way_139 : decode cX7_way 139 = .ok (.iload_n 1, 1) := by decide +kernel
theorem dX7_way_140 : decode cX7_way 140 = .ok (.iload_n 2, 1) := by decide +kernel
theorem dX7_way_141 : decode cX7_way 141 = .ok (.invokevirtual 74, 3) := by decide +kernel
theorem dX7_way_144 : decode cX7_way 144 = .ok (.aload_n 0, 1) := by decide +kernel
theorem dX7_way_145 : decode cX7_way 145 = .ok (.getfield 63, 3) := by decide +kernel
theorem dX7_way_148 : decode cX7_way 148 = .ok (.iconst 1, 1) := by decide +kernel
theorem dX7_way_149 : decode cX7_way 149 = .ok (.isub, 1) := by decide +kernel
theorem dX7_way_150 : decode cX7_way 150 = .ok (.ireturn, 1) := by decide +kernel
set_option maxRecDepth 20000 in
theorem ggX7_next_X7_areTwoPosts : GoodIn wsX7_next wsX7_areTwoPosts := goodIn_r _ [6, 7, 8, 9, 5, 10, 11, 12, 13, 14, 15, 16, 17, 18, 19, 20, 21, 22, 23, 24, 25] (by decide +kernel) (by decide +kernel)
set_option maxRecDepth 20000 in
theorem gX7_next_X7_areTwoPosts : GoodIn wsX7_next (wsV RX7 59 RX7 yX7_areTwoPosts wsX7_areTwoPosts) := goodIn_app (goodIn_of _ (by decide +kernel)) ggX7_next_X7_areTwoPosts
theorem dX7_next_0 : decode cX7_next 0 = .ok (.aload_n 0, 1) := by decide +kernel
theorem dX7_next_1 : decode cX7_next 1 = .ok (.iload_n 1, 1) := by decide +kernel
theorem dX7_next_2 : decode cX7_next 2 = .ok (.iload_n 2, 1) := by decide +kernel
theorem dX7_next_3 : decode cX7_next 3 = .ok (.invokevirtual 59, 3) := by decide +kernel
theorem dX7_next_6 : decode cX7_next 6 = .ok (.ifCond .eq 16, 3) := by decide +kernel
theorem dX7_next_9 : decode cX7_next 9 = .ok (.aload_n 0, 1) := by decide +kernel
theorem dX7_next_10 : decode cX7_next 10 = .ok (.getfield 35, 3) := by decide +kernel
theorem dX7_next_13 : decode cX7_next 13 = .ok (.iload_n 1, 1) := by decide +kernel
theorem dX7_next_14 : decode cX7_next 14 = .ok (.aaload, 1) := by decide +kernel
theorem dX7_next_15 : decode cX7_next 15 = .ok (.iload_n 2, 1) := by decide +kernel
theorem dX7_next_16 : decode cX7_next 16 = .ok (.iaload, 1) := by decide +kernel
theorem dX7_next_17 : decode cX7_next 17 = .ok (.bipush 100, 2) := by decide +kernel
theorem dX7_next_19 : decode cX7_next 19 = .ok (.if_icmp .lt 5, 3) := by decide +kernel
theorem dX7_next_22 : decode cX7_next 22 = .ok (.iconst (-1), 1) := by decide +kernel
theorem dX7_next_23 : decode cX7_next 23 = .ok (.ireturn, 1) := by decide +kernel
theorem dX7_next_24 : decode cX7_next 24 = .ok (.iconst 0, 1) := by decide +kernel
theorem dX7_next_25 : decode cX7_next 25 = .ok (.istore_n 3, 1) := by decide +kernel
theorem dX7_next_26 : decode cX7_next 26 = .ok (.iload_n 3, 1) := by decide +kernel
theorem dX7_next_27 : decode cX7_next 27 = .ok (.bipush 8, 2) := by decide +kernel
theorem dX7_next_29 : decode cX7_next 29 = .ok (.if_icmp .ge 44, 3) := by decide +kernel
theorem dX7_next_32 : decode cX7_next 32 = .ok (.aload_n 0, 1) := by decide +kernel
theorem dX7_next_33 : decode cX7_next 33 = .ok (.getfield 35, 3) := by decide +kernel
theorem dX7_next_36 : decode cX7_next 36 = .ok (.iload_n 1, 1) := by decide +kernel
theorem dX7_next_37 : decode cX7_next 37 = .ok (.aaload, 1) := by decide +kernel
theorem dX7_next_38 : decode cX7_next 38 = .ok (.iload_n 3, 1) := by decide +kernel
theorem dX7_next_39 : decode cX7_next 39 = .ok (.iaload, 1) := by decide +kernel
theorem dX7_next_40 : decode cX7_next 40 = .ok (.iconst 1, 1) := by decide +kernel
theorem dX7_next_41 : decode cX7_next 41 = .ok (.if_icmp .ne 26, 3) := by decide +kernel
theorem dX7_next_44 : decode cX7_next 44 = .ok (.aload_n 0, 1) := by decide +kernel
theorem dX7_next_45 : decode cX7_next 45 = .ok (.getfield 35, 3) := by decide +kernel
theorem dX7_next_48 : decode cX7_next 48 = .ok (.iload_n 3, 1) := by decide +kernel
theorem dX7_next_49 : decode cX7_next 49 = .ok (.aaload, 1) := by decide +kernel
theorem dX7_next_50 : decode cX7_next 50 = .ok (.iload_n 2, 1) := by decide +kernel
theorem dX7_next_51 : decode cX7_next 51 = .ok (.iaload, 1) := by decide +kernel
theorem dX7_next_52 : decode cX7_next 52 = .ok (.aload_n 0, 1) := by decide +kernel
theorem dX7_next_53 : decode cX7_next 53 = .ok (.getfield 35, 3) := by decide +kernel
theorem dX7_next_56 : decode cX7_next 56 = .ok (.iload_n 1, 1) := by decide +kernel
theorem dX7_next_57 : decode cX7_next 57 = .ok (.aaload, 1) := by decide +kernel
theorem dX7_next_58 : decode cX7_next 58 = .ok (.iload_n 2, 1) := by decide +kernel
theorem dX7_next_59 : decode cX7_next 59 = .ok (.iaload, 1) := by decide +kernel
theorem dX7_next_60 : decode cX7_next 60 = .ok (.iconst 1, 1) := by decide +kernel
theorem dX7_next_61 : decode cX7_next 61 = .ok (.isub, 1) := by decide +kernel
theorem dX7_next_62 : decode cX7_next 62 = .ok (.if_icmp .ne 5, 3) := by decide +kernel
theorem dX7_next_65 : decode cX7_next 65 = .ok (.iload_n 3, 1) := by decide +kernel
theorem dX7_next_66 : decode cX7_next 66 = .ok (.ireturn, 1) := by decide +kernel
theorem dX7_next_67 : decode cX7_next 67 = .ok (.iinc 3 1, 3) := by decide +kernel
theorem dX7_next_70 : decode cX7_next 70 = .ok (.goto (-44), 3) := by decide +kernel
theorem dX7_next_73 : decode cX7_next 73 = .ok (.iconst (-1), 1) := by decide +kernel
theorem dX7_next_74 : decode cX7_next 74 = .ok (.ireturn, 1) := by decide +kernel
theorem dX7_shortenDistances_0 : decode cX7_shortenDistances 0 = .ok (.iconst 0, 1) := by decide +kernel
theorem dX7_shortenDistances_1 : decode cX7_shortenDistances 1 = .ok (.istore_n 3, 1) := by decide +kernel
theorem dX7_shortenDistances_2 : decode cX7_shortenDistances 2 = .ok (.iload_n 3, 1) := by decide +kernel
theorem dX7_shortenDistances_3 : decode cX7_shortenDistances 3 = .ok (.bipush 8, 2) := by decide +kernel
theorem dX7_shortenDistances_5 : decode cX7_shortenDistances 5 = .ok (.if_icmp .ge 97, 3) := by decide +kernel
theorem dX7_shortenDistances_8 : decode cX7_shortenDistances 8 = .ok (.iconst 0, 1) := by decide +kernel
theorem dX7_shortenDistances_9 : decode cX7_shortenDistances 9 = .ok (.istore 4, 2) := by decide +kernel
theorem dX7_shortenDistances_11 : decode cX7_shortenDistances 11 = .ok (.iload 4, 2) := by decide +kernel
theorem dX7_shortenDistances_13 : decode cX7_shortenDistances 13 = .ok (.bipush 8, 2) := by decide +kernel
theorem dX7_shortenDistances_15 : decode cX7_shortenDistances 15 = .ok (.if_icmp .ge 81, 3) := by decide +kernel
theorem dX7_shortenDistances_18 : decode cX7_shortenDistances 18 = .ok (.aload_n 0, 1) := by decide +kernel
theorem dX7_shortenDistances_19 : decode cX7_shortenDistances 19 = .ok (.getfield 35, 3) := by decide +kernel
theorem dX7_shortenDistances_22 : decode cX7_shortenDistances 22 = .ok (.iload_n 3, 1) := by decide +kernel
theorem dX7_shortenDistances_23 : decode cX7_shortenDistances 23 = .ok (.aaload, 1) := by decide +kernel
theorem dX7_shortenDistances_24 : decode cX7_shortenDistances 24 = .ok (.iload_n 1, 1) := by decide +kernel
theorem dX7_shortenDistances_25 : decode cX7_shortenDistances 25 = .ok (.iaload, 1) := by decide +kernel
theorem dX7_shortenDistances_26 : decode cX7_shortenDistances 26 = .ok (.iconst 1, 1) := by decide +kernel
theorem dX7_shortenDistances_27 : decode cX7_shortenDistances 27 = .ok (.iadd, 1) := by decide +kernel
theorem dX7_shortenDistances_28 : decode cX7_shortenDistances 28 = .ok (.aload_n 0, 1) := by decide +kernel
theorem dX7_shortenDistances_29 : decode cX7_shortenDistances 29 = .ok (.getfield 35, 3) := by decide +kernel
theorem dX7_shortenDistances_32 : decode cX7_shortenDistances 32 = .ok (.iload_n 2, 1) := by decide +kernel
theorem dX7_shortenDistances_33 : decode cX7_shortenDistances 33 = .ok (.aaload, 1) := by decide +kernel
theorem dX7_shortenDistances_34 : decode cX7_shortenDistances 34 = .ok (.iload 4, 2) := by decide +kernel
theorem dX7_shortenDistances_36 : decode cX7_shortenDistances 36 = .ok (.iaload, 1) := by decide +kernel
theorem dX7_shortenDistances_37 : decode cX7_shortenDistances 37 = .ok (.iadd, 1) := by decide +kernel
theorem dX7_shortenDistances_38 : decode cX7_shortenDistances 38 = .ok (.istore 5, 2) := by decide +kernel
theorem dX7_shortenDistances_40 : decode cX7_shortenDistances 40 = .ok (.aload_n 0, 1) := by decide +kernel
theorem dX7_shortenDistances_41 : decode cX7_shortenDistances 41 = .ok (.getfield 35, 3) := by decide +kernel
theorem dX7_shortenDistances_44 : decode cX7_shortenDistances 44 = .ok (.iload_n 3, 1) := by decide +kernel
theorem dX7_shortenDistances_45 : decode cX7_shortenDistances 45 = .ok (.aaload, 1) := by decide +kernel
theorem dX7_shortenDistances_46 : decode cX7_shortenDistances 46 = .ok (.iload_n 2, 1) := by decide +kernel
theorem dX7_shortenDistances_47 : decode cX7_shortenDistances 47 = .ok (.iaload, 1) := by decide +kernel
theorem dX7_shortenDistances_48 : decode cX7_shortenDistances 48 = .ok (.iconst 1, 1) := by decide +kernel
theorem dX7_shortenDistances_49 : decode cX7_shortenDistances 49 = .ok (.iadd, 1) := by decide +kernel
theorem dX7_shortenDistances_50 : decode cX7_shortenDistances 50 = .ok (.aload_n 0, 1) := by decide +kernel
theorem dX7_shortenDistances_51 : decode cX7_shortenDistances 51 = .ok (.getfield 35, 3) := by decide +kernel
theorem dX7_shortenDistances_54 : decode cX7_shortenDistances 54 = .ok (.iload_n 1, 1) := by decide +kernel
theorem dX7_shortenDistances_55 : decode cX7_shortenDistances 55 = .ok (.aaload, 1) := by decide +kernel
theorem dX7_shortenDistances_56 : decode cX7_shortenDistances 56 = .ok (.iload 4, 2) := by decide +kernel
theorem dX7_shortenDistances_58 : decode cX7_shortenDistances 58 = .ok (.iaload, 1) := by decide +kernel
theorem dX7_shortenDistances_59 : decode cX7_shortenDistances 59 = .ok (.iadd, 1) := by decide +kernel
theorem dX7_shortenDistances_60 : decode cX7_shortenDistances 60 = .ok (.istore 6, 2) := by decide +kernel
theorem dX7_shortenDistances_62 : decode cX7_shortenDistances 62 = .ok (.aload_n 0, 1) := by decide +kernel
theorem dX7_shortenDistances_63 : decode cX7_shortenDistances 63 = .ok (.getfield 35, 3) := by decide +kernel
theorem dX7_shortenDistances_66 : decode cX7_shortenDistances 66 = .ok (.iload_n 3, 1) := by decide +kernel
theorem dX7_shortenDistances_67 : decode cX7_shortenDistances 67 = .ok (.aaload, 1) := by decide +kernel
theorem dX7_shortenDistances_68 : decode cX7_shortenDistances 68 = .ok (.iload 4, 2) := by decide +kernel
theorem dX7_shortenDistances_70 : decode cX7_shortenDistances 70 = .ok (.aload_n 0, 1) := by decide +kernel
theorem dX7_shortenDistances_71 : decode cX7_shortenDistances 71 = .ok (.getfield 35, 3) := by decide +kernel
theorem dX7_shortenDistances_74 : decode cX7_shortenDistances 74 = .ok (.iload_n 3, 1) := by decide +kernel
theorem dX7_shortenDistances_75 : decode cX7_shortenDistances 75 = .ok (.aaload, 1) := by decide +kernel
theorem dX7_shortenDistances_76 : decode cX7_shortenDistances 76 = .ok (.iload 4, 2) := by decide +kernel
theorem dX7_shortenDistances_78 : decode cX7_shortenDistances 78 = .ok (.iaload, 1) := by decide +kernel
theorem dX7_shortenDistances_79 : decode cX7_shortenDistances 79 = .ok (.iload 5, 2) := by decide +kernel
theorem dX7_shortenDistances_81 : decode cX7_shortenDistances 81 = .ok (.iload 6, 2) := by decide +kernel
theorem dX7_shortenDistances_83 : decode cX7_shortenDistances 83 = .ok (.invokestatic 78, 3) := by decide +kernel
theorem dX7_shortenDistances_86 : decode cX7_shortenDistances 86 = .ok (.invokestatic 78, 3) := by decide +kernel
theorem dX7_shortenDistances_89 : decode cX7_shortenDistances 89 = .ok (.iastore, 1) := by decide +kernel
theorem dX7_shortenDistances_90 : decode cX7_shortenDistances 90 = .ok (.iinc 4 1, 3) := by decide +kernel
theorem dX7_shortenDistances_93 : decode cX7_shortenDistances 93 = .ok (.goto (-82), 3) := by decide +kernel
theorem dX7_shortenDistances_96 : decode cX7_shortenDistances 96 = .ok (.iinc 3 1, 3) := by decide +kernel
theorem dX7_shortenDistances_99 : decode cX7_shortenDistances 99 = .ok (.goto (-97), 3) := by decide +kernel
theorem dX7_shortenDistances_102 : decode cX7_shortenDistances 102 = .ok (.return_, 1) := by decide +kernel
set_option maxRecDepth 20000 in
theorem ggX7_store_X7_postAt : GoodIn wsX7_store wsX7_postAt := goodIn_r _ [8, 9, 20, 21, 22, 23, 24, 25, 26, 27, 28, 29, 30, 31, 32, 33] (by decide +kernel) (by decide +kernel)
set_option maxRecDepth 20000 in
theorem gX7_store_X7_postAt : GoodIn wsX7_store (wsV RX7 84 RX7 yX7_postAt wsX7_postAt) := goodIn_app (goodIn_of _ (by decide +kernel)) ggX7_store_X7_postAt
set_option maxRecDepth 20000 in
theorem ggX7_store_X7_isWare : GoodIn wsX7_store wsX7_isWare := goodIn_r _ [12] (by decide +kernel) (by decide +kernel)
set_option maxRecDepth 20000 in
theorem gX7_store_X7_isWare : GoodIn wsX7_store (va_wsS RX7 88 yX7_isWare wsX7_isWare) := goodIn_app (goodIn_of _ (by decide +kernel)) ggX7_store_X7_isWare
set_option maxRecDepth 20000 in
theorem ggX7_store_X7_isWithin : GoodIn wsX7_store wsX7_isWithin := goodIn_r _ [15] (by decide +kernel) (by decide +kernel)
set_option maxRecDepth 20000 in
theorem gX7_store_X7_isWithin : GoodIn wsX7_store (va_wsS RX7 66 yX7_isWithin wsX7_isWithin) := goodIn_app (goodIn_of _ (by decide +kernel)) ggX7_store_X7_isWithin
theorem dX7_store_0 : decode cX7_store 0 = .ok (.aload_n 0, 1) := by decide +kernel
theorem dX7_store_1 : decode cX7_store 1 = .ok (.iload_n 1, 1) := by decide +kernel
theorem dX7_store_2 : decode cX7_store 2 = .ok (.invokevirtual 84, 3) := by decide +kernel
theorem dX7_store_5 : decode cX7_store 5 = .ok (.astore 4, 2) := by decide +kernel
theorem dX7_store_7 : decode cX7_store 7 = .ok (.aload 4, 2) := by decide +kernel
theorem dX7_store_9 : decode cX7_store 9 = .ok (.ifnull 35, 3) := by decide +kernel
theorem dX7_store_12 : decode cX7_store 12 = .ok (.iload_n 2, 1) := by decide +kernel
theorem dX7_store_13 : decode cX7_store 13 = .ok (.invokestatic 88, 3) := by decide +kernel
theorem dX7_store_16 : decode cX7_store 16 = .ok (.ifCond .eq 28, 3) := by decide +kernel
theorem dX7_store_19 : decode cX7_store 19 = .ok (.iload_n 3, 1) := by decide +kernel
theorem dX7_store_20 : decode cX7_store 20 = .ok (.iconst 1, 1) := by decide +kernel
theorem dX7_store_21 : decode cX7_store 21 = .ok (.sipush 10000, 3) := by decide +kernel
theorem dX7_store_24 : decode cX7_store 24 = .ok (.invokestatic 66, 3) := by decide +kernel
theorem dX7_store_27 : decode cX7_store 27 = .ok (.ifCond .eq 17, 3) := by decide +kernel
theorem dX7_store_30 : decode cX7_store 30 = .ok (.aload 4, 2) := by decide +kernel
theorem dX7_store_32 : decode cX7_store 32 = .ok (.getfield 92, 3) := by decide +kernel
theorem dX7_store_35 : decode cX7_store 35 = .ok (.iload_n 2, 1) := by decide +kernel
theorem dX7_store_36 : decode cX7_store 36 = .ok (.iaload, 1) := by decide +kernel
theorem dX7_store_37 : decode cX7_store 37 = .ok (.iload_n 3, 1) := by decide +kernel
theorem dX7_store_38 : decode cX7_store 38 = .ok (.iadd, 1) := by decide +kernel
theorem dX7_store_39 : decode cX7_store 39 = .ok (.ldc 95, 2) := by decide +kernel
theorem dX7_store_41 : decode cX7_store 41 = .ok (.if_icmp .le 5, 3) := by decide +kernel
theorem dX7_store_44 : decode cX7_store 44 = .ok (.iconst (-1), 1) := by decide +kernel
theorem dX7_store_45 : decode cX7_store 45 = .ok (.ireturn, 1) := by decide +kernel
theorem dX7_store_46 : decode cX7_store 46 = .ok (.aload 4, 2) := by decide +kernel
theorem dX7_store_48 : decode cX7_store 48 = .ok (.getfield 92, 3) := by decide +kernel
theorem dX7_store_51 : decode cX7_store 51 = .ok (.iload_n 2, 1) := by decide +kernel
theorem dX7_store_52 : decode cX7_store 52 = .ok (.dup2, 1) := by decide +kernel
theorem dX7_store_53 : decode cX7_store 53 = .ok (.iaload, 1) := by decide +kernel
theorem dX7_store_54 : decode cX7_store 54 = .ok (.iload_n 3, 1) := by decide +kernel
theorem dX7_store_55 : decode cX7_store 55 = .ok (.iadd, 1) := by decide +kernel
theorem dX7_store_56 : decode cX7_store 56 = .ok (.iastore, 1) := by decide +kernel
theorem dX7_store_57 : decode cX7_store 57 = .ok (.aload_n 0, 1) := by decide +kernel
theorem dX7_store_58 : decode cX7_store 58 = .ok (.getfield 41, 3) := by decide +kernel
theorem dX7_store_61 : decode cX7_store 61 = .ok (.iload_n 2, 1) := by decide +kernel
theorem dX7_store_62 : decode cX7_store 62 = .ok (.aaload, 1) := by decide +kernel
theorem dX7_store_63 : decode cX7_store 63 = .ok (.iconst 0, 1) := by decide +kernel
theorem dX7_store_64 : decode cX7_store 64 = .ok (.dup2, 1) := by decide +kernel
theorem dX7_store_65 : decode cX7_store 65 = .ok (.iaload, 1) := by decide +kernel
theorem dX7_store_66 : decode cX7_store 66 = .ok (.iload_n 3, 1) := by decide +kernel
theorem dX7_store_67 : decode cX7_store 67 = .ok (.iadd, 1) := by decide +kernel
theorem dX7_store_68 : decode cX7_store 68 = .ok (.iastore, 1) := by decide +kernel
theorem dX7_store_69 : decode cX7_store 69 = .ok (.aload 4, 2) := by decide +kernel
theorem dX7_store_71 : decode cX7_store 71 = .ok (.getfield 92, 3) := by decide +kernel
theorem dX7_store_74 : decode cX7_store 74 = .ok (.iload_n 2, 1) := by decide +kernel
theorem dX7_store_75 : decode cX7_store 75 = .ok (.iaload, 1) := by decide +kernel
theorem dX7_store_76 : decode cX7_store 76 = .ok (.ireturn, 1) := by decide +kernel
set_option maxRecDepth 20000 in
theorem ggX7_load_X7_isWare : GoodIn wsX7_load wsX7_isWare := goodIn_r _ [5] (by decide +kernel) (by decide +kernel)
set_option maxRecDepth 20000 in
theorem gX7_load_X7_isWare : GoodIn wsX7_load (va_wsS RX7 88 yX7_isWare wsX7_isWare) := goodIn_app (goodIn_of _ (by decide +kernel)) ggX7_load_X7_isWare
set_option maxRecDepth 20000 in
theorem ggX7_load_X7_isWithin : GoodIn wsX7_load wsX7_isWithin := goodIn_r _ [8] (by decide +kernel) (by decide +kernel)
set_option maxRecDepth 20000 in
theorem gX7_load_X7_isWithin : GoodIn wsX7_load (va_wsS RX7 66 yX7_isWithin wsX7_isWithin) := goodIn_app (goodIn_of _ (by decide +kernel)) ggX7_load_X7_isWithin
theorem dX7_load_0 : decode cX7_load 0 = .ok (.iload_n 1, 1) := by decide +kernel
theorem dX7_load_1 : decode cX7_load 1 = .ok (.invokestatic 88, 3) := by decide +kernel
theorem dX7_load_4 : decode cX7_load 4 = .ok (.ifCond .eq 14, 3) := by decide +kernel
theorem dX7_load_7 : decode cX7_load 7 = .ok (.iload_n 2, 1) := by decide +kernel
theorem dX7_load_8 : decode cX7_load 8 = .ok (.iconst 0, 1) := by decide +kernel
theorem dX7_load_9 : decode cX7_load 9 = .ok (.sipush 500, 3) := by decide +kernel
theorem dX7_load_12 : decode cX7_load 12 = .ok (.invokestatic 66, 3) := by decide +kernel
theorem dX7_load_15 : decode cX7_load 15 = .ok (.ifCond .ne 5, 3) := by decide +kernel
theorem dX7_load_18 : decode cX7_load 18 = .ok (.iconst 0, 1) := by decide +kernel
theorem dX7_load_19 : decode cX7_load 19 = .ok (.ireturn, 1) := by decide +kernel
theorem dX7_load_20 : decode cX7_load 20 = .ok (.aload_n 0, 1) := by decide +kernel
theorem dX7_load_21 : decode cX7_load 21 = .ok (.getfield 44, 3) := by decide +kernel
theorem dX7_load_24 : decode cX7_load 24 = .ok (.iload_n 1, 1) := by decide +kernel
theorem dX7_load_25 : decode cX7_load 25 = .ok (.iload_n 2, 1) := by decide +kernel
theorem dX7_load_26 : decode cX7_load 26 = .ok (.iastore, 1) := by decide +kernel
theorem dX7_load_27 : decode cX7_load 27 = .ok (.iconst 1, 1) := by decide +kernel
theorem dX7_load_28 : decode cX7_load 28 = .ok (.ireturn, 1) := by decide +kernel
set_option maxRecDepth 20000 in
theorem ggX7_send_X7_postAt : GoodIn wsX7_send wsX7_postAt := goodIn_r _ [21, 22, 93, 94, 95, 96, 97, 98, 99, 100, 101, 102, 103, 104, 105, 106] (by decide +kernel) (by decide +kernel)
set_option maxRecDepth 20000 in
theorem gX7_send_X7_postAt : GoodIn wsX7_send (wsV RX7 84 RX7 yX7_postAt wsX7_postAt) := goodIn_app (goodIn_of _ (by decide +kernel)) ggX7_send_X7_postAt
set_option maxRecDepth 20000 in
theorem ggX7_send_X7_wayAt : GoodIn wsX7_send wsX7_wayAt := goodIn_r _ [26, 27, 93, 94, 95, 96, 97, 98, 99, 100, 101, 102, 103, 104, 105, 106] (by decide +kernel) (by decide +kernel)
set_option maxRecDepth 20000 in
theorem gX7_send_X7_wayAt : GoodIn wsX7_send (wsV RX7 96 RX7 yX7_wayAt wsX7_wayAt) := goodIn_app (goodIn_of _ (by decide +kernel)) ggX7_send_X7_wayAt
set_option maxRecDepth 20000 in
theorem ggX7_send_X6_startsAt : GoodIn wsX7_send wsX6_startsAt := goodIn_r _ [32, 33, 34, 118, 119, 120, 121, 122, 123] (by decide +kernel) (by decide +kernel)
set_option maxRecDepth 20000 in
theorem gX7_send_X6_startsAt : GoodIn wsX7_send (wsV RX7 100 RX6 yX6_startsAt wsX6_startsAt) := goodIn_app (goodIn_of _ (by decide +kernel)) ggX7_send_X6_startsAt
set_option maxRecDepth 20000 in
theorem ggX7_send_X6_isOpenOn : GoodIn wsX7_send wsX6_isOpenOn := goodIn_r _ [38, 39, 40, 41, 20, 42, 118, 119, 120, 121, 122, 123] (by decide +kernel) (by decide +kernel)
set_option maxRecDepth 20000 in
theorem gX7_send_X6_isOpenOn : GoodIn wsX7_send (wsV RX7 106 RX6 yX6_isOpenOn wsX6_isOpenOn) := goodIn_app (goodIn_of _ (by decide +kernel)) ggX7_send_X6_isOpenOn
set_option maxRecDepth 20000 in
theorem ggX7_send_X7_canLoad : GoodIn wsX7_send wsX7_canLoad := goodIn_r _ [46, 7, 15, 47, 93, 94, 95, 96, 97, 98, 99, 100, 101, 102, 103, 104, 105, 106, 124, 125, 126, 127, 118, 119, 120, 121, 122, 123] (by decide +kernel) (by decide +kernel)
set_option maxRecDepth 20000 in
theorem gX7_send_X7_canLoad : GoodIn wsX7_send (wsV RX7 109 RX7 yX7_canLoad wsX7_canLoad) := goodIn_app (goodIn_of _ (by decide +kernel)) ggX7_send_X7_canLoad
set_option maxRecDepth 20000 in
theorem ggX7_send_X6_otherEnd : GoodIn wsX7_send wsX6_otherEnd := goodIn_r _ [51, 33, 34, 118, 119, 120, 121, 122, 123] (by decide +kernel) (by decide +kernel)
set_option maxRecDepth 20000 in
theorem gX7_send_X6_otherEnd : GoodIn wsX7_send (wsV RX7 116 RX6 yX6_otherEnd wsX6_otherEnd) := goodIn_app (goodIn_of _ (by decide +kernel)) ggX7_send_X6_otherEnd
set_option maxRecDepth 20000 in
theorem ggX7_send_X0_init : GoodIn wsX7_send wsX0_init := goodIn_r _ [54, 55, 56, 57, 58, 59, 60, 61, 62, 63, 64, 65, 66, 9, 10, 11, 12, 67, 68, 107, 108, 109, 110, 111, 112, 113, 114, 115, 116, 117] (by decide +kernel) (by decide +kernel)
set_option maxRecDepth 20000 in
theorem gX7_send_X0_init : GoodIn wsX7_send (wsX0_init) := ggX7_send_X0_init
set_option maxRecDepth 20000 in
theorem ggX7_send_X7_takeLetters : GoodIn wsX7_send wsX7_takeLetters := goodIn_r _ [72, 73, 74, 75, 76, 77, 78, 79, 80, 81, 20, 82, 83, 84, 85, 86, 87, 88, 89, 90, 91, 92, 17, 18, 19, 21, 22, 93, 94, 95, 96, 97, 98, 99, 100, 101, 102, 103, 104, 105, 106, 128, 129, 130, 131, 132, 133, 134, 135, 136, 137, 138, 139, 140, 141, 142, 143, 144, 145, 107, 108, 109, 110, 111, 112, 113, 114, 115, 116, 117] (by decide +kernel) (by decide +kernel)
set_option maxRecDepth 20000 in
theorem gX7_send_X7_takeLetters : GoodIn wsX7_send (wsV RX7 131 RX7 yX7_takeLetters wsX7_takeLetters) := goodIn_app (goodIn_of _ (by decide +kernel)) ggX7_send_X7_takeLetters
theorem dX7_send_0 : decode cX7_send 0 = .ok (.aload_n 0, 1) := by decide +kernel
theorem dX7_send_1 : decode cX7_send 1 = .ok (.iload_n 1, 1) := by decide +kernel
theorem dX7_send_2 : decode cX7_send 2 = .ok (.invokevirtual 84, 3) := by decide +kernel
theorem dX7_send_5 : decode cX7_send 5 = .ok (.astore_n 3, 1) := by decide +kernel
theorem dX7_send_6 : decode cX7_send 6 = .ok (.aload_n 0, 1) := by decide +kernel
theorem dX7_send_7 : decode cX7_send 7 = .ok (.iload_n 2, 1) := by decide +kernel
theorem dX7_send_8 : decode cX7_send 8 = .ok (.invokevirtual 96, 3) := by decide +kernel
theorem dX7_send_11 : decode cX7_send 11 = .ok (.astore 4, 2) := by decide +kernel
theorem dX7_send_13 : decode cX7_send 13 = .ok (.aload_n 3, 1) := by decide +kernel
theorem dX7_send_14 : decode cX7_send 14 = .ok (.ifnull 29, 3) := by decide +kernel
theorem dX7_send_17 : decode cX7_send 17 = .ok (.aload 4, 2) := by decide +kernel
theorem dX7_send_19 : decode cX7_send 19 = .ok (.ifnull 24, 3) := by decide +kernel
theorem dX7_send_22 : decode cX7_send 22 = .ok (.aload 4, 2) := by decide +kernel
theorem dX7_send_24 : decode cX7_send 24 = .ok (.iload_n 1, 1) := by decide +kernel
theorem dX7_send_25 : decode cX7_send 25 = .ok (.invokevirtual 100, 3) := by decide +kernel
theorem dX7_send_28 : decode cX7_send 28 = .ok (.ifCond .eq 15, 3) := by decide +kernel
theorem dX7_send_31 : decode cX7_send 31 = .ok (.aload 4, 2) := by decide +kernel
theorem dX7_send_33 : decode cX7_send 33 = .ok (.aload_n 0, 1) := by decide +kernel
theorem dX7_send_34 : decode cX7_send 34 = .ok (.getfield 103, 3) := by decide +kernel
theorem dX7_send_37 : decode cX7_send 37 = .ok (.invokevirtual 106, 3) := by decide +kernel
theorem dX7_send_40 : decode cX7_send 40 = .ok (.ifCond .ne 5, 3) := by decide +kernel
theorem dX7_send_43 : decode cX7_send 43 = .ok (.iconst (-1), 1) := by decide +kernel
theorem dX7_send_44 : decode cX7_send 44 = .ok (.ireturn, 1) := by decide +kernel
theorem dX7_send_45 : decode cX7_send 45 = .ok (.aload_n 0, 1) := by decide +kernel
theorem dX7_send_46 : decode cX7_send 46 = .ok (.aload_n 3, 1) := by decide +kernel
theorem dX7_send_47 : decode cX7_send 47 = .ok (.aload 4, 2) := by decide +kernel
theorem dX7_send_49 : decode cX7_send 49 = .ok (.invokevirtual 109, 3) := by decide +kernel
theorem dX7_send_52 : decode cX7_send 52 = .ok (.ifCond .eq 22, 3) := by decide +kernel
theorem dX7_send_55 : decode cX7_send 55 = .ok (.aload_n 0, 1) := by decide +kernel
theorem dX7_send_56 : decode cX7_send 56 = .ok (.getfield 113, 3) := by decide +kernel
theorem dX7_send_59 : decode cX7_send 59 = .ok (.bipush 120, 2) := by decide +kernel
theorem dX7_send_61 : decode cX7_send 61 = .ok (.if_icmp .ge 13, 3) := by decide +kernel
theorem dX7_send_64 : decode cX7_send 64 = .ok (.aload_n 0, 1) := by decide +kernel
theorem dX7_send_65 : decode cX7_send 65 = .ok (.getfield 103, 3) := by decide +kernel
theorem dX7_send_68 : decode cX7_send 68 = .ok (.sipush 3000, 3) := by decide +kernel
theorem dX7_send_71 : decode cX7_send 71 = .ok (.if_icmp .lt 5, 3) := by decide +kernel
theorem dX7_send_74 : decode cX7_send 74 = .ok (.iconst (-1), 1) := by decide +kernel
theorem dX7_send_75 : decode cX7_send 75 = .ok (.ireturn, 1) := by decide +kernel
theorem dX7_send_76 : decode cX7_send 76 = .ok (.aload_n 0, 1) := by decide +kernel
theorem dX7_send_77 : decode cX7_send 77 = .ok (.getfield 113, 3) := by decide +kernel
theorem dX7_send_80 : decode cX7_send 80 = .ok (.istore 5, 2) := by decide +kernel
theorem dX7_send_82 : decode cX7_send 82 = .ok (.new 21, 3) := by decide +kernel
theorem dX7_send_85 : decode cX7_send 85 = .ok (.dup, 1) := by decide +kernel
theorem dX7_send_86 : decode cX7_send 86 = .ok (.iload_n 1, 1) := by decide +kernel
theorem dX7_send_87 : decode cX7_send 87 = .ok (.aload 4, 2) := by decide +kernel
theorem dX7_send_89 : decode cX7_send 89 = .ok (.iload_n 1, 1) := by decide +kernel
theorem dX7_send_90 : decode cX7_send 90 = .ok (.invokevirtual 116, 3) := by decide +kernel
theorem dX7_send_93 : decode cX7_send 93 = .ok (.iload_n 2, 1) := by decide +kernel
theorem dX7_send_94 : decode cX7_send 94 = .ok (.aload 4, 2) := by decide +kernel
theorem dX7_send_96 : decode cX7_send 96 = .ok (.getfield 120, 3) := by decide +kernel
theorem dX7_send_99 : decode cX7_send 99 = .ok (.aload_n 0, 1) := by decide +kernel
theorem dX7_send_100 : decode cX7_send 100 = .ok (.getfield 103, 3) := by decide +kernel
theorem dX7_send_103 : decode cX7_send 103 = .ok (.aload_n 0, 1) := by decide +kernel
theorem dX7_send_104 : decode cX7_send 104 = .ok (.getfield 44, 3) := by decide +kernel
theorem dX7_send_107 : decode cX7_send 107 = .ok (.invokevirtual 123, 3) := by decide +kernel
theorem dX7_send_110 : decode cX7_send 110 = .ok (.checkcast 124, 3) := by decide +kernel
theorem dX7_send_113 : decode cX7_send 113 = .ok (.invokespecial 128, 3) := by decide +kernel
theorem dX7_send_116 : decode cX7_send 116 = .ok (.astore 6, 2) := by decide +kernel
theorem dX7_send_118 : decode cX7_send 118 = .ok (.aload_n 0, 1) := by decide +kernel
theorem dX7_send_119 : decode cX7_send 119 = .ok (.getfield 23, 3) := by decide +kernel
theorem dX7_send_122 : decode cX7_send 122 = .ok (.iload 5, 2) := by decide +kernel
theorem dX7_send_124 : decode cX7_send 124 = .ok (.aload 6, 2) := by decide +kernel
theorem dX7_send_126 : decode cX7_send 126 = .ok (.aastore, 1) := by decide +kernel
theorem dX7_send_127 : decode cX7_send 127 = .ok (.aload_n 0, 1) := by decide +kernel
theorem dX7_send_128 : decode cX7_send 128 = .ok (.dup, 1) := by decide +kernel
theorem dX7_send_129 : decode cX7_send 129 = .ok (.getfield 113, 3) := by decide +kernel
theorem dX7_send_132 : decode cX7_send 132 = .ok (.iconst 1, 1) := by decide +kernel
theorem dX7_send_133 : decode cX7_send 133 = .ok (.iadd, 1) := by decide +kernel
theorem dX7_send_134 : decode cX7_send 134 = .ok (.putfield 113, 3) := by decide +kernel
theorem dX7_send_137 : decode cX7_send 137 = .ok (.iconst 0, 1) := by decide +kernel
theorem dX7_send_138 : decode cX7_send 138 = .ok (.istore 7, 2) := by decide +kernel
theorem dX7_send_140 : decode cX7_send 140 = .ok (.iload 7, 2) := by decide +kernel
theorem dX7_send_142 : decode cX7_send 142 = .ok (.bipush 6, 2) := by decide +kernel
theorem dX7_send_144 : decode cX7_send 144 = .ok (.if_icmp .ge 34, 3) := by decide +kernel
theorem dX7_send_147 : decode cX7_send 147 = .ok (.aload_n 3, 1) := by decide +kernel
theorem dX7_send_148 : decode cX7_send 148 = .ok (.getfield 92, 3) := by decide +kernel
theorem dX7_send_151 : decode cX7_send 151 = .ok (.iload 7, 2) := by decide +kernel
theorem dX7_send_153 : decode cX7_send 153 = .ok (.dup2, 1) := by decide +kernel
theorem dX7_send_154 : decode cX7_send 154 = .ok (.iaload, 1) := by decide +kernel
theorem dX7_send_155 : decode cX7_send 155 = .ok (.aload_n 0, 1) := by decide +kernel
theorem dX7_send_156 : decode cX7_send 156 = .ok (.getfield 44, 3) := by decide +kernel
theorem dX7_send_159 : decode cX7_send 159 = .ok (.iload 7, 2) := by decide +kernel
theorem dX7_send_161 : decode cX7_send 161 = .ok (.iaload, 1) := by decide +kernel
theorem dX7_send_162 : decode cX7_send 162 = .ok (.isub, 1) := by decide +kernel
theorem dX7_send_163 : decode cX7_send 163 = .ok (.iastore, 1) := by decide +kernel
theorem dX7_send_164 : decode cX7_send 164 = .ok (.aload_n 0, 1) := by decide +kernel
theorem dX7_send_165 : decode cX7_send 165 = .ok (.getfield 44, 3) := by decide +kernel
theorem dX7_send_168 : decode cX7_send 168 = .ok (.iload 7, 2) := by decide +kernel
theorem dX7_send_170 : decode cX7_send 170 = .ok (.iconst 0, 1) := by decide +kernel
theorem dX7_send_171 : decode cX7_send 171 = .ok (.iastore, 1) := by decide +kernel
theorem dX7_send_172 : decode cX7_send 172 = .ok (.iinc 7 1, 3) := by decide +kernel
theorem dX7_send_175 : decode cX7_send 175 = .ok (.goto (-35), 3) := by decide +kernel
theorem dX7_send_178 : decode cX7_send 178 = .ok (.aload 6, 2) := by decide +kernel
theorem dX7_send_180 : decode cX7_send 180 = .ok (.aload_n 0, 1) := by decide +kernel
theorem dX7_send_181 : decode cX7_send 181 = .ok (.iload 5, 2) := by decide +kernel
theorem dX7_send_183 : decode cX7_send 183 = .ok (.aload 6, 2) := by decide +kernel
theorem dX7_send_185 : decode cX7_send 185 = .ok (.invokevirtual 131, 3) := by decide +kernel
theorem dX7_send_188 : decode cX7_send 188 = .ok (.putfield 135, 3) := by decide +kernel
theorem dX7_send_191 : decode cX7_send 191 = .ok (.iload 5, 2) := by decide +kernel
theorem dX7_send_193 : decode cX7_send 193 = .ok (.ireturn, 1) := by decide +kernel
set_option maxRecDepth 20000 in
theorem ggX7_lose_X7_canoeAt : GoodIn wsX7_lose wsX7_canoeAt := goodIn_r _ [9, 10, 35, 36, 37, 38, 39, 40, 41, 42, 43, 44, 45, 46, 47, 48] (by decide +kernel) (by decide +kernel)
set_option maxRecDepth 20000 in
theorem gX7_lose_X7_canoeAt : GoodIn wsX7_lose (wsV RX7 138 RX7 yX7_canoeAt wsX7_canoeAt) := goodIn_app (goodIn_of _ (by decide +kernel)) ggX7_lose_X7_canoeAt
set_option maxRecDepth 20000 in
theorem ggX7_lose_X7_loseLetters : GoodIn wsX7_lose wsX7_loseLetters := goodIn_r _ [14, 15, 16, 17, 18, 19, 20, 21, 8, 22, 23, 35, 36, 37, 38, 39, 40, 41, 42, 43, 44, 45, 46, 47, 48, 49, 50, 51, 52, 53, 54, 55, 56, 57, 58, 59, 60, 61, 62, 63, 64, 65, 66] (by decide +kernel) (by decide +kernel)
set_option maxRecDepth 20000 in
theorem gX7_lose_X7_loseLetters : GoodIn wsX7_lose (wsV RX7 151 RX7 yX7_loseLetters wsX7_loseLetters) := goodIn_app (goodIn_of _ (by decide +kernel)) ggX7_lose_X7_loseLetters
theorem dX7_lose_0 : decode cX7_lose 0 = .ok (.aload_n 0, 1) := by decide +kernel
theorem dX7_lose_1 : decode cX7_lose 1 = .ok (.iload_n 1, 1) := by decide +kernel
theorem dX7_lose_2 : decode cX7_lose 2 = .ok (.invokevirtual 138, 3) := by decide +kernel
theorem dX7_lose_5 : decode cX7_lose 5 = .ok (.astore_n 2, 1) := by decide +kernel
theorem dX7_lose_6 : decode cX7_lose 6 = .ok (.aload_n 2, 1) := by decide +kernel
theorem dX7_lose_7 : decode cX7_lose 7 = .ok (.ifnull 10, 3) := by decide +kernel
theorem dX7_lose_10 : decode cX7_lose 10 = .ok (.aload_n 2, 1) := by decide +kernel
theorem dX7_lose_11 : decode cX7_lose 11 = .ok (.getfield 142, 3) := by decide +kernel
theorem dX7_lose_14 : decode cX7_lose 14 = .ok (.ifCond .eq 5, 3) := by decide +kernel
theorem dX7_lose_17 : decode cX7_lose 17 = .ok (.iconst (-1), 1) := by decide +kernel
theorem dX7_lose_18 : decode cX7_lose 18 = .ok (.ireturn, 1) := by decide +kernel
theorem dX7_lose_19 : decode cX7_lose 19 = .ok (.aload_n 2, 1) := by decide +kernel
theorem dX7_lose_20 : decode cX7_lose 20 = .ok (.iconst 2, 1) := by decide +kernel
theorem dX7_lose_21 : decode cX7_lose 21 = .ok (.putfield 142, 3) := by decide +kernel
theorem dX7_lose_24 : decode cX7_lose 24 = .ok (.aload_n 2, 1) := by decide +kernel
theorem dX7_lose_25 : decode cX7_lose 25 = .ok (.iconst 0, 1) := by decide +kernel
theorem dX7_lose_26 : decode cX7_lose 26 = .ok (.putfield 145, 3) := by decide +kernel
theorem dX7_lose_29 : decode cX7_lose 29 = .ok (.iconst 0, 1) := by decide +kernel
theorem dX7_lose_30 : decode cX7_lose 30 = .ok (.istore_n 3, 1) := by decide +kernel
theorem dX7_lose_31 : decode cX7_lose 31 = .ok (.iconst 0, 1) := by decide +kernel
theorem dX7_lose_32 : decode cX7_lose 32 = .ok (.istore 4, 2) := by decide +kernel
theorem dX7_lose_34 : decode cX7_lose 34 = .ok (.iload 4, 2) := by decide +kernel
theorem dX7_lose_36 : decode cX7_lose 36 = .ok (.bipush 6, 2) := by decide +kernel
theorem dX7_lose_38 : decode cX7_lose 38 = .ok (.if_icmp .ge 46, 3) := by decide +kernel
theorem dX7_lose_41 : decode cX7_lose 41 = .ok (.iload_n 3, 1) := by decide +kernel
theorem dX7_lose_42 : decode cX7_lose 42 = .ok (.aload_n 2, 1) := by decide +kernel
theorem dX7_lose_43 : decode cX7_lose 43 = .ok (.getfield 148, 3) := by decide +kernel
theorem dX7_lose_46 : decode cX7_lose 46 = .ok (.iload 4, 2) := by decide +kernel
theorem dX7_lose_48 : decode cX7_lose 48 = .ok (.iaload, 1) := by decide +kernel
theorem dX7_lose_49 : decode cX7_lose 49 = .ok (.iadd, 1) := by decide +kernel
theorem dX7_lose_50 : decode cX7_lose 50 = .ok (.istore_n 3, 1) := by decide +kernel
theorem dX7_lose_51 : decode cX7_lose 51 = .ok (.aload_n 0, 1) := by decide +kernel
theorem dX7_lose_52 : decode cX7_lose 52 = .ok (.getfield 41, 3) := by decide +kernel
theorem dX7_lose_55 : decode cX7_lose 55 = .ok (.iload 4, 2) := by decide +kernel
theorem dX7_lose_57 : decode cX7_lose 57 = .ok (.aaload, 1) := by decide +kernel
theorem dX7_lose_58 : decode cX7_lose 58 = .ok (.iconst 4, 1) := by decide +kernel
theorem dX7_lose_59 : decode cX7_lose 59 = .ok (.dup2, 1) := by decide +kernel
theorem dX7_lose_60 : decode cX7_lose 60 = .ok (.iaload, 1) := by decide +kernel
theorem dX7_lose_61 : decode cX7_lose 61 = .ok (.aload_n 2, 1) := by decide +kernel
theorem dX7_lose_62 : decode cX7_lose 62 = .ok (.getfield 148, 3) := by decide +kernel
theorem dX7_lose_65 : decode cX7_lose 65 = .ok (.iload 4, 2) := by decide +kernel
theorem dX7_lose_67 : decode cX7_lose 67 = .ok (.iaload, 1) := by decide +kernel
theorem dX7_lose_68 : decode cX7_lose 68 = .ok (.iadd, 1) := by decide +kernel
theorem dX7_lose_69 : decode cX7_lose 69 = .ok (.iastore, 1) := by decide +kernel
theorem dX7_lose_70 : decode cX7_lose 70 = .ok (.aload_n 2, 1) := by decide +kernel
theorem dX7_lose_71 : decode cX7_lose 71 = .ok (.getfield 148, 3) := by decide +kernel
theorem dX7_lose_74 : decode cX7_lose 74 = .ok (.iload 4, 2) := by decide +kernel
theorem dX7_lose_76 : decode cX7_lose 76 = .ok (.iconst 0, 1) := by decide +kernel
theorem dX7_lose_77 : decode cX7_lose 77 = .ok (.iastore, 1) := by decide +kernel
theorem dX7_lose_78 : decode cX7_lose 78 = .ok (.iinc 4 1, 3) := by decide +kernel
theorem dX7_lose_81 : decode cX7_lose 81 = .ok (.goto (-47), 3) := by decide +kernel
theorem dX7_lose_84 : decode cX7_lose 84 = .ok (.aload_n 0, 1) := by decide +kernel
theorem dX7_lose_85 : decode cX7_lose 85 = .ok (.iload_n 1, 1) := by decide +kernel
theorem dX7_lose_86 : decode cX7_lose 86 = .ok (.invokevirtual 151, 3) := by decide +kernel
theorem dX7_lose_89 : decode cX7_lose 89 = .ok (.iload_n 3, 1) := by decide +kernel
theorem dX7_lose_90 : decode cX7_lose 90 = .ok (.ireturn, 1) := by decide +kernel
set_option maxRecDepth 20000 in
theorem ggX7_spoil_X7_canoeAt : GoodIn wsX7_spoil wsX7_canoeAt := goodIn_r _ [9, 10, 28, 29, 30, 31, 32, 33, 34, 35, 36, 37, 38, 39, 40, 41] (by decide +kernel) (by decide +kernel)
set_option maxRecDepth 20000 in
theorem gX7_spoil_X7_canoeAt : GoodIn wsX7_spoil (wsV RX7 138 RX7 yX7_canoeAt wsX7_canoeAt) := goodIn_app (goodIn_of _ (by decide +kernel)) ggX7_spoil_X7_canoeAt
set_option maxRecDepth 20000 in
theorem ggX7_spoil_X7_isWare : GoodIn wsX7_spoil wsX7_isWare := goodIn_r _ [13] (by decide +kernel) (by decide +kernel)
set_option maxRecDepth 20000 in
theorem gX7_spoil_X7_isWare : GoodIn wsX7_spoil (va_wsS RX7 88 yX7_isWare wsX7_isWare) := goodIn_app (goodIn_of _ (by decide +kernel)) ggX7_spoil_X7_isWare
set_option maxRecDepth 20000 in
theorem ggX7_spoil_X7_isWithin : GoodIn wsX7_spoil wsX7_isWithin := goodIn_r _ [16] (by decide +kernel) (by decide +kernel)
set_option maxRecDepth 20000 in
theorem gX7_spoil_X7_isWithin : GoodIn wsX7_spoil (va_wsS RX7 66 yX7_isWithin wsX7_isWithin) := goodIn_app (goodIn_of _ (by decide +kernel)) ggX7_spoil_X7_isWithin
theorem dX7_spoil_0 : decode cX7_spoil 0 = .ok (.aload_n 0, 1) := by decide +kernel
theorem dX7_spoil_1 : decode cX7_spoil 1 = .ok (.iload_n 1, 1) := by decide +kernel
theorem dX7_spoil_2 : decode cX7_spoil 2 = .ok (.invokevirtual 138, 3) := by decide +kernel
theorem dX7_spoil_5 : decode cX7_spoil 5 = .ok (.astore 4, 2) := by decide +kernel
theorem dX7_spoil_7 : decode cX7_spoil 7 = .ok (.aload 4, 2) := by decide +kernel
theorem dX7_spoil_9 : decode cX7_spoil 9 = .ok (.ifnull 33, 3) := by decide +kernel
theorem dX7_spoil_12 : decode cX7_spoil 12 = .ok (.aload 4, 2) := by decide +kernel
theorem dX7_spoil_14 : decode cX7_spoil 14 = .ok (.getfield 142, 3) := by decide +kernel
theorem dX7_spoil_17 : decode cX7_spoil 17 = .ok (.ifCond .ne 25, 3) := by decide +kernel
theorem dX7_spoil_20 : decode cX7_spoil 20 = .ok (.iload_n 2, 1) := by decide +kernel
theorem dX7_spoil_21 : decode cX7_spoil 21 = .ok (.invokestatic 88, 3) := by decide +kernel
theorem dX7_spoil_24 : decode cX7_spoil 24 = .ok (.ifCond .eq 18, 3) := by decide +kernel
theorem dX7_spoil_27 : decode cX7_spoil 27 = .ok (.iload_n 3, 1) := by decide +kernel
theorem dX7_spoil_28 : decode cX7_spoil 28 = .ok (.iconst 1, 1) := by decide +kernel
theorem dX7_spoil_29 : decode cX7_spoil 29 = .ok (.aload 4, 2) := by decide +kernel
theorem dX7_spoil_31 : decode cX7_spoil 31 = .ok (.getfield 148, 3) := by decide +kernel
theorem dX7_spoil_34 : decode cX7_spoil 34 = .ok (.iload_n 2, 1) := by decide +kernel
theorem dX7_spoil_35 : decode cX7_spoil 35 = .ok (.iaload, 1) := by decide +kernel
theorem dX7_spoil_36 : decode cX7_spoil 36 = .ok (.invokestatic 66, 3) := by decide +kernel
theorem dX7_spoil_39 : decode cX7_spoil 39 = .ok (.ifCond .ne 5, 3) := by decide +kernel
theorem dX7_spoil_42 : decode cX7_spoil 42 = .ok (.iconst 0, 1) := by decide +kernel
theorem dX7_spoil_43 : decode cX7_spoil 43 = .ok (.ireturn, 1) := by decide +kernel
theorem dX7_spoil_44 : decode cX7_spoil 44 = .ok (.aload 4, 2) := by decide +kernel
theorem dX7_spoil_46 : decode cX7_spoil 46 = .ok (.getfield 148, 3) := by decide +kernel
theorem dX7_spoil_49 : decode cX7_spoil 49 = .ok (.iload_n 2, 1) := by decide +kernel
theorem dX7_spoil_50 : decode cX7_spoil 50 = .ok (.dup2, 1) := by decide +kernel
theorem dX7_spoil_51 : decode cX7_spoil 51 = .ok (.iaload, 1) := by decide +kernel
theorem dX7_spoil_52 : decode cX7_spoil 52 = .ok (.iload_n 3, 1) := by decide +kernel
theorem dX7_spoil_53 : decode cX7_spoil 53 = .ok (.isub, 1) := by decide +kernel
theorem dX7_spoil_54 : decode cX7_spoil 54 = .ok (.iastore, 1) := by decide +kernel
theorem dX7_spoil_55 : decode cX7_spoil 55 = .ok (.aload 4, 2) := by decide +kernel
theorem dX7_spoil_57 : decode cX7_spoil 57 = .ok (.iconst 1, 1) := by decide +kernel
theorem dX7_spoil_58 : decode cX7_spoil 58 = .ok (.putfield 155, 3) := by decide +kernel
theorem dX7_spoil_61 : decode cX7_spoil 61 = .ok (.aload_n 0, 1) := by decide +kernel
theorem dX7_spoil_62 : decode cX7_spoil 62 = .ok (.getfield 41, 3) := by decide +kernel
theorem dX7_spoil_65 : decode cX7_spoil 65 = .ok (.iload_n 2, 1) := by decide +kernel
theorem dX7_spoil_66 : decode cX7_spoil 66 = .ok (.aaload, 1) := by decide +kernel
theorem dX7_spoil_67 : decode cX7_spoil 67 = .ok (.iconst 5, 1) := by decide +kernel
theorem dX7_spoil_68 : decode cX7_spoil 68 = .ok (.dup2, 1) := by decide +kernel
theorem dX7_spoil_69 : decode cX7_spoil 69 = .ok (.iaload, 1) := by decide +kernel
theorem dX7_spoil_70 : decode cX7_spoil 70 = .ok (.iload_n 3, 1) := by decide +kernel
theorem dX7_spoil_71 : decode cX7_spoil 71 = .ok (.iadd, 1) := by decide +kernel
theorem dX7_spoil_72 : decode cX7_spoil 72 = .ok (.iastore, 1) := by decide +kernel
theorem dX7_spoil_73 : decode cX7_spoil 73 = .ok (.iconst 1, 1) := by decide +kernel
theorem dX7_spoil_74 : decode cX7_spoil 74 = .ok (.ireturn, 1) := by decide +kernel
set_option maxRecDepth 20000 in
theorem ggX7_go_X7_isWithin : GoodIn wsX7_go wsX7_isWithin := goodIn_r _ [6] (by decide +kernel) (by decide +kernel)
set_option maxRecDepth 20000 in
theorem gX7_go_X7_isWithin : GoodIn wsX7_go (va_wsS RX7 66 yX7_isWithin wsX7_isWithin) := goodIn_app (goodIn_of _ (by decide +kernel)) ggX7_go_X7_isWithin
set_option maxRecDepth 20000 in
theorem ggX7_go_X7_moveCanoe : GoodIn wsX7_go wsX7_moveCanoe := goodIn_r _ [10, 11, 12, 13, 1, 14, 15, 16, 17, 5, 18, 19, 20, 21, 22, 23, 24, 25, 26, 27, 28, 29, 30, 31, 32, 33, 34, 35, 36, 4, 6, 37, 38, 39, 40, 41, 42, 43, 44, 45, 46, 47, 48, 49, 50, 51, 52, 53, 54, 55, 56, 57, 58, 59, 60, 61, 62, 63, 64, 65, 66, 67, 68, 69, 70, 71, 72, 73, 74, 75, 76, 77, 78, 79, 80, 81, 82, 83, 84, 85, 86, 87, 88, 89, 90, 105, 106, 107, 108, 109, 110, 111, 112, 113, 114, 115, 91, 92, 93, 94, 95, 96, 97, 98, 99, 100, 101, 102, 103, 104, 116, 117, 118, 119, 120, 121, 122, 123, 124, 125, 126, 127, 128, 129, 130, 131, 132, 133, 134, 135, 136, 137, 138, 139, 140, 141, 142, 143] (by decide +kernel) (by decide +kernel)
set_option maxRecDepth 20000 in
theorem gX7_go_X7_moveCanoe : GoodIn wsX7_go (wsV RX7 159 RX7 yX7_moveCanoe wsX7_moveCanoe) := goodIn_app (goodIn_of _ (by decide +kernel)) ggX7_go_X7_moveCanoe
theorem dX7_go_0 : decode cX7_go 0 = .ok (.iload_n 1, 1) := by decide +kernel
theorem dX7_go_1 : decode cX7_go 1 = .ok (.iconst 0, 1) := by decide +kernel
theorem dX7_go_2 : decode cX7_go 2 = .ok (.sipush 400, 3) := by decide +kernel
theorem dX7_go_5 : decode cX7_go 5 = .ok (.invokestatic 66, 3) := by decide +kernel
theorem dX7_go_8 : decode cX7_go 8 = .ok (.ifCond .ne 5, 3) := by decide +kernel
theorem dX7_go_11 : decode cX7_go 11 = .ok (.iconst (-1), 1) := by decide +kernel
theorem dX7_go_12 : decode cX7_go 12 = .ok (.ireturn, 1) := by decide +kernel
theorem dX7_go_13 : decode cX7_go 13 = .ok (.iconst 0, 1) := by decide +kernel
theorem dX7_go_14 : decode cX7_go 14 = .ok (.istore_n 2, 1) := by decide +kernel
theorem dX7_go_15 : decode cX7_go 15 = .ok (.iload_n 2, 1) := by decide +kernel
theorem dX7_go_16 : decode cX7_go 16 = .ok (.iload_n 1, 1) := by decide +kernel
theorem dX7_go_17 : decode cX7_go 17 = .ok (.if_icmp .ge 50, 3) := by decide +kernel
theorem dX7_go_20 : decode cX7_go 20 = .ok (.aload_n 0, 1) := by decide +kernel
theorem dX7_go_21 : decode cX7_go 21 = .ok (.getfield 103, 3) := by decide +kernel
theorem dX7_go_24 : decode cX7_go 24 = .ok (.sipush 3000, 3) := by decide +kernel
theorem dX7_go_27 : decode cX7_go 27 = .ok (.if_icmp .ge 40, 3) := by decide +kernel
theorem dX7_go_30 : decode cX7_go 30 = .ok (.iconst 0, 1) := by decide +kernel
theorem dX7_go_31 : decode cX7_go 31 = .ok (.istore_n 3, 1) := by decide +kernel
theorem dX7_go_32 : decode cX7_go 32 = .ok (.iload_n 3, 1) := by decide +kernel
theorem dX7_go_33 : decode cX7_go 33 = .ok (.aload_n 0, 1) := by decide +kernel
theorem dX7_go_34 : decode cX7_go 34 = .ok (.getfield 113, 3) := by decide +kernel
theorem dX7_go_37 : decode cX7_go 37 = .ok (.if_icmp .ge 14, 3) := by decide +kernel
theorem dX7_go_40 : decode cX7_go 40 = .ok (.aload_n 0, 1) := by decide +kernel
theorem dX7_go_41 : decode cX7_go 41 = .ok (.iload_n 3, 1) := by decide +kernel
theorem dX7_go_42 : decode cX7_go 42 = .ok (.invokevirtual 159, 3) := by decide +kernel
theorem dX7_go_45 : decode cX7_go 45 = .ok (.iinc 3 1, 3) := by decide +kernel
theorem dX7_go_48 : decode cX7_go 48 = .ok (.goto (-16), 3) := by decide +kernel
theorem dX7_go_51 : decode cX7_go 51 = .ok (.aload_n 0, 1) := by decide +kernel
theorem dX7_go_52 : decode cX7_go 52 = .ok (.dup, 1) := by decide +kernel
theorem dX7_go_53 : decode cX7_go 53 = .ok (.getfield 103, 3) := by decide +kernel
theorem dX7_go_56 : decode cX7_go 56 = .ok (.iconst 1, 1) := by decide +kernel
theorem dX7_go_57 : decode cX7_go 57 = .ok (.iadd, 1) := by decide +kernel
theorem dX7_go_58 : decode cX7_go 58 = .ok (.putfield 103, 3) := by decide +kernel
theorem dX7_go_61 : decode cX7_go 61 = .ok (.iinc 2 1, 3) := by decide +kernel
theorem dX7_go_64 : decode cX7_go 64 = .ok (.goto (-49), 3) := by decide +kernel
theorem dX7_go_67 : decode cX7_go 67 = .ok (.aload_n 0, 1) := by decide +kernel
theorem dX7_go_68 : decode cX7_go 68 = .ok (.getfield 103, 3) := by decide +kernel
theorem dX7_go_71 : decode cX7_go 71 = .ok (.ireturn, 1) := by decide +kernel
theorem dX7_canLoad_0 : decode cX7_canLoad 0 = .ok (.iconst 0, 1) := by decide +kernel
theorem dX7_canLoad_1 : decode cX7_canLoad 1 = .ok (.istore_n 3, 1) := by decide +kernel
theorem dX7_canLoad_2 : decode cX7_canLoad 2 = .ok (.iconst 0, 1) := by decide +kernel
theorem dX7_canLoad_3 : decode cX7_canLoad 3 = .ok (.istore 4, 2) := by decide +kernel
theorem dX7_canLoad_5 : decode cX7_canLoad 5 = .ok (.iload 4, 2) := by decide +kernel
theorem dX7_canLoad_7 : decode cX7_canLoad 7 = .ok (.bipush 6, 2) := by decide +kernel
theorem dX7_canLoad_9 : decode cX7_canLoad 9 = .ok (.if_icmp .ge 38, 3) := by decide +kernel
theorem dX7_canLoad_12 : decode cX7_canLoad 12 = .ok (.aload_n 0, 1) := by decide +kernel
theorem dX7_canLoad_13 : decode cX7_canLoad 13 = .ok (.getfield 44, 3) := by decide +kernel
theorem dX7_canLoad_16 : decode cX7_canLoad 16 = .ok (.iload 4, 2) := by decide +kernel
theorem dX7_canLoad_18 : decode cX7_canLoad 18 = .ok (.iaload, 1) := by decide +kernel
theorem dX7_canLoad_19 : decode cX7_canLoad 19 = .ok (.aload_n 1, 1) := by decide +kernel
theorem dX7_canLoad_20 : decode cX7_canLoad 20 = .ok (.getfield 92, 3) := by decide +kernel
theorem dX7_canLoad_23 : decode cX7_canLoad 23 = .ok (.iload 4, 2) := by decide +kernel
theorem dX7_canLoad_25 : decode cX7_canLoad 25 = .ok (.iaload, 1) := by decide +kernel
theorem dX7_canLoad_26 : decode cX7_canLoad 26 = .ok (.if_icmp .le 5, 3) := by decide +kernel
theorem dX7_canLoad_29 : decode cX7_canLoad 29 = .ok (.iconst 0, 1) := by decide +kernel
theorem dX7_canLoad_30 : decode cX7_canLoad 30 = .ok (.ireturn, 1) := by decide +kernel
theorem dX7_canLoad_31 : decode cX7_canLoad 31 = .ok (.iload_n 3, 1) := by decide +kernel
theorem dX7_canLoad_32 : decode cX7_canLoad 32 = .ok (.aload_n 0, 1) := by decide +kernel
theorem dX7_canLoad_33 : decode cX7_canLoad 33 = .ok (.getfield 44, 3) := by decide +kernel
theorem dX7_canLoad_36 : decode cX7_canLoad 36 = .ok (.iload 4, 2) := by decide +kernel
theorem dX7_canLoad_38 : decode cX7_canLoad 38 = .ok (.iaload, 1) := by decide +kernel
theorem dX7_canLoad_39 : decode cX7_canLoad 39 = .ok (.iadd, 1) := by decide +kernel
theorem dX7_canLoad_40 : decode cX7_canLoad 40 = .ok (.istore_n 3, 1) := by decide +kernel
theorem dX7_canLoad_41 : decode cX7_canLoad 41 = .ok (.iinc 4 1, 3) := by decide +kernel
theorem dX7_canLoad_44 : decode cX7_canLoad 44 = .ok (.goto (-39), 3) := by decide +kernel
theorem dX7_canLoad_47 : decode cX7_canLoad 47 = .ok (.iload_n 3, 1) := by decide +kernel
theorem dX7_canLoad_48 : decode cX7_canLoad 48 = .ok (.aload_n 2, 1) := by decide +kernel
theorem dX7_canLoad_49 : decode cX7_canLoad 49 = .ok (.getfield 162, 3) := by decide +kernel
theorem dX7_canLoad_52 : decode cX7_canLoad 52 = .ok (.if_icmp .gt 7, 3) := by decide +kernel
theorem dX7_canLoad_55 : decode cX7_canLoad 55 = .ok (.iconst 1, 1) := by decide +kernel
theorem dX7_canLoad_56 : decode cX7_canLoad 56 = .ok (.goto 4, 3) := by decide +kernel
theorem dX7_canLoad_59 : decode cX7_canLoad 59 = .ok (.iconst 0, 1) := by decide +kernel
theorem dX7_canLoad_60 : decode cX7_canLoad 60 = .ok (.ireturn, 1) := by decide +kernel
set_option maxRecDepth 20000 in
theorem ggX7_takeLetters_X7_letterAt : GoodIn wsX7_takeLetters wsX7_letterAt := goodIn_r _ [11, 12, 27, 28, 29, 30, 31, 32, 33, 34, 35, 36, 37, 38, 39, 40] (by decide +kernel) (by decide +kernel)
set_option maxRecDepth 20000 in
theorem gX7_takeLetters_X7_letterAt : GoodIn wsX7_takeLetters (wsV RX7 168 RX7 yX7_letterAt wsX7_letterAt) := goodIn_app (goodIn_of _ (by decide +kernel)) ggX7_takeLetters_X7_letterAt
set_option maxRecDepth 20000 in
theorem ggX7_takeLetters_X7_next : GoodIn wsX7_takeLetters wsX7_next := goodIn_r _ [16, 17, 18, 19, 20, 10, 21, 22, 23, 24, 25, 26, 27, 28, 29, 30, 31, 32, 33, 34, 35, 36, 37, 38, 39, 40] (by decide +kernel) (by decide +kernel)
set_option maxRecDepth 20000 in
theorem gX7_takeLetters_X7_next : GoodIn wsX7_takeLetters (wsV RX7 181 RX7 yX7_next wsX7_next) := goodIn_app (goodIn_of _ (by decide +kernel)) ggX7_takeLetters_X7_next
theorem dX7_takeLetters_0 : decode cX7_takeLetters 0 = .ok (.iconst 0, 1) := by decide +kernel
theorem dX7_takeLetters_1 : decode cX7_takeLetters 1 = .ok (.istore_n 3, 1) := by decide +kernel
theorem dX7_takeLetters_2 : decode cX7_takeLetters 2 = .ok (.iconst 0, 1) := by decide +kernel
theorem dX7_takeLetters_3 : decode cX7_takeLetters 3 = .ok (.istore 4, 2) := by decide +kernel
theorem dX7_takeLetters_5 : decode cX7_takeLetters 5 = .ok (.iload 4, 2) := by decide +kernel
theorem dX7_takeLetters_7 : decode cX7_takeLetters 7 = .ok (.aload_n 0, 1) := by decide +kernel
theorem dX7_takeLetters_8 : decode cX7_takeLetters 8 = .ok (.getfield 165, 3) := by decide +kernel
theorem dX7_takeLetters_11 : decode cX7_takeLetters 11 = .ok (.if_icmp .ge 69, 3) := by decide +kernel
theorem dX7_takeLetters_14 : decode cX7_takeLetters 14 = .ok (.aload_n 0, 1) := by decide +kernel
theorem dX7_takeLetters_15 : decode cX7_takeLetters 15 = .ok (.iload 4, 2) := by decide +kernel
theorem dX7_takeLetters_17 : decode cX7_takeLetters 17 = .ok (.invokevirtual 168, 3) := by decide +kernel
theorem dX7_takeLetters_20 : decode cX7_takeLetters 20 = .ok (.astore 5, 2) := by decide +kernel
theorem dX7_takeLetters_22 : decode cX7_takeLetters 22 = .ok (.aload 5, 2) := by decide +kernel
theorem dX7_takeLetters_24 : decode cX7_takeLetters 24 = .ok (.ifnull 50, 3) := by decide +kernel
theorem dX7_takeLetters_27 : decode cX7_takeLetters 27 = .ok (.aload 5, 2) := by decide +kernel
theorem dX7_takeLetters_29 : decode cX7_takeLetters 29 = .ok (.getfield 172, 3) := by decide +kernel
theorem dX7_takeLetters_32 : decode cX7_takeLetters 32 = .ok (.aload_n 2, 1) := by decide +kernel
theorem dX7_takeLetters_33 : decode cX7_takeLetters 33 = .ok (.getfield 175, 3) := by decide +kernel
theorem dX7_takeLetters_36 : decode cX7_takeLetters 36 = .ok (.if_icmp .ne 38, 3) := by decide +kernel
theorem dX7_takeLetters_39 : decode cX7_takeLetters 39 = .ok (.aload_n 0, 1) := by decide +kernel
theorem dX7_takeLetters_40 : decode cX7_takeLetters 40 = .ok (.aload_n 2, 1) := by decide +kernel
theorem dX7_takeLetters_41 : decode cX7_takeLetters 41 = .ok (.getfield 175, 3) := by decide +kernel
theorem dX7_takeLetters_44 : decode cX7_takeLetters 44 = .ok (.aload 5, 2) := by decide +kernel
theorem dX7_takeLetters_46 : decode cX7_takeLetters 46 = .ok (.getfield 178, 3) := by decide +kernel
theorem dX7_takeLetters_49 : decode cX7_takeLetters 49 = .ok (.invokevirtual 181, 3) := by decide +kernel
theorem dX7_takeLetters_52 : decode cX7_takeLetters 52 = .ok (.aload_n 2, 1) := by decide +kernel
theorem dX7_takeLetters_53 : decode cX7_takeLetters 53 = .ok (.getfield 184, 3) := by decide +kernel
theorem dX7_takeLetters_56 : decode cX7_takeLetters 56 = .ok (.if_icmp .ne 18, 3) := by decide +kernel
theorem dX7_takeLetters_59 : decode cX7_takeLetters 59 = .ok (.aload 5, 2) := by decide +kernel
theorem dX7_takeLetters_61 : decode cX7_takeLetters 61 = .ok (.iconst (-1), 1) := by decide +kernel
theorem dX7_takeLetters_62 : decode cX7_takeLetters 62 = .ok (.putfield 172, 3) := by decide +kernel
theorem dX7_takeLetters_65 : decode cX7_takeLetters 65 = .ok (.aload 5, 2) := by decide +kernel
theorem dX7_takeLetters_67 : decode cX7_takeLetters 67 = .ok (.iload_n 1, 1) := by decide +kernel
theorem dX7_takeLetters_68 : decode cX7_takeLetters 68 = .ok (.putfield 185, 3) := by decide +kernel
theorem dX7_takeLetters_71 : decode cX7_takeLetters 71 = .ok (.iinc 3 1, 3) := by decide +kernel
theorem dX7_takeLetters_74 : decode cX7_takeLetters 74 = .ok (.iinc 4 1, 3) := by decide +kernel
theorem dX7_takeLetters_77 : decode cX7_takeLetters 77 = .ok (.goto (-72), 3) := by decide +kernel
theorem dX7_takeLetters_80 : decode cX7_takeLetters 80 = .ok (.iload_n 3, 1) := by decide +kernel
theorem dX7_takeLetters_81 : decode cX7_takeLetters 81 = .ok (.ireturn, 1) := by decide +kernel
set_option maxRecDepth 20000 in
theorem ggX7_loseLetters_X7_letterAt : GoodIn wsX7_loseLetters wsX7_letterAt := goodIn_r _ [9, 10, 11, 12, 13, 14, 15, 16, 17, 18, 19, 20, 21, 22, 23, 24] (by decide +kernel) (by decide +kernel)
set_option maxRecDepth 20000 in
theorem gX7_loseLetters_X7_letterAt : GoodIn wsX7_loseLetters (wsV RX7 168 RX7 yX7_letterAt wsX7_letterAt) := goodIn_app (goodIn_of _ (by decide +kernel)) ggX7_loseLetters_X7_letterAt
theorem dX7_loseLetters_0 : decode cX7_loseLetters 0 = .ok (.iconst 0, 1) := by decide +kernel
theorem dX7_loseLetters_1 : decode cX7_loseLetters 1 = .ok (.istore_n 2, 1) := by decide +kernel
theorem dX7_loseLetters_2 : decode cX7_loseLetters 2 = .ok (.iload_n 2, 1) := by decide +kernel
theorem dX7_loseLetters_3 : decode cX7_loseLetters 3 = .ok (.aload_n 0, 1) := by decide +kernel
theorem dX7_loseLetters_4 : decode cX7_loseLetters 4 = .ok (.getfield 165, 3) := by decide +kernel
theorem dX7_loseLetters_7 : decode cX7_loseLetters 7 = .ok (.if_icmp .ge 49, 3) := by decide +kernel
theorem dX7_loseLetters_10 : decode cX7_loseLetters 10 = .ok (.aload_n 0, 1) := by decide +kernel
theorem dX7_loseLetters_11 : decode cX7_loseLetters 11 = .ok (.iload_n 2, 1) := by decide +kernel
theorem dX7_loseLetters_12 : decode cX7_loseLetters 12 = .ok (.invokevirtual 168, 3) := by decide +kernel
theorem dX7_loseLetters_15 : decode cX7_loseLetters 15 = .ok (.astore_n 3, 1) := by decide +kernel
theorem dX7_loseLetters_16 : decode cX7_loseLetters 16 = .ok (.aload_n 3, 1) := by decide +kernel
theorem dX7_loseLetters_17 : decode cX7_loseLetters 17 = .ok (.ifnull 33, 3) := by decide +kernel
theorem dX7_loseLetters_20 : decode cX7_loseLetters 20 = .ok (.aload_n 3, 1) := by decide +kernel
theorem dX7_loseLetters_21 : decode cX7_loseLetters 21 = .ok (.getfield 185, 3) := by decide +kernel
theorem dX7_loseLetters_24 : decode cX7_loseLetters 24 = .ok (.iload_n 1, 1) := by decide +kernel
theorem dX7_loseLetters_25 : decode cX7_loseLetters 25 = .ok (.if_icmp .ne 25, 3) := by decide +kernel
theorem dX7_loseLetters_28 : decode cX7_loseLetters 28 = .ok (.aload_n 3, 1) := by decide +kernel
theorem dX7_loseLetters_29 : decode cX7_loseLetters 29 = .ok (.iconst (-1), 1) := by decide +kernel
theorem dX7_loseLetters_30 : decode cX7_loseLetters 30 = .ok (.putfield 185, 3) := by decide +kernel
theorem dX7_loseLetters_33 : decode cX7_loseLetters 33 = .ok (.aload_n 3, 1) := by decide +kernel
theorem dX7_loseLetters_34 : decode cX7_loseLetters 34 = .ok (.instanceof 188, 3) := by decide +kernel
theorem dX7_loseLetters_37 : decode cX7_loseLetters 37 = .ok (.ifCond .eq 13, 3) := by decide +kernel
theorem dX7_loseLetters_40 : decode cX7_loseLetters 40 = .ok (.aload_n 0, 1) := by decide +kernel
theorem dX7_loseLetters_41 : decode cX7_loseLetters 41 = .ok (.dup, 1) := by decide +kernel
theorem dX7_loseLetters_42 : decode cX7_loseLetters 42 = .ok (.getfield 190, 3) := by decide +kernel
theorem dX7_loseLetters_45 : decode cX7_loseLetters 45 = .ok (.iconst 1, 1) := by decide +kernel
theorem dX7_loseLetters_46 : decode cX7_loseLetters 46 = .ok (.iadd, 1) := by decide +kernel
theorem dX7_loseLetters_47 : decode cX7_loseLetters 47 = .ok (.putfield 190, 3) := by decide +kernel
theorem dX7_loseLetters_50 : decode cX7_loseLetters 50 = .ok (.iinc 2 1, 3) := by decide +kernel
theorem dX7_loseLetters_53 : decode cX7_loseLetters 53 = .ok (.goto (-51), 3) := by decide +kernel
theorem dX7_loseLetters_56 : decode cX7_loseLetters 56 = .ok (.return_, 1) := by decide +kernel
set_option maxRecDepth 20000 in
theorem ggX7_moveCanoe_X7_canoeAt : GoodIn wsX7_moveCanoe wsX7_canoeAt := goodIn_r _ [10, 11, 96, 97, 98, 99, 100, 101, 102, 103, 104, 105, 106, 107, 108, 109] (by decide +kernel) (by decide +kernel)
set_option maxRecDepth 20000 in
theorem gX7_moveCanoe_X7_canoeAt : GoodIn wsX7_moveCanoe (wsV RX7 138 RX7 yX7_canoeAt wsX7_canoeAt) := goodIn_app (goodIn_of _ (by decide +kernel)) ggX7_moveCanoe_X7_canoeAt
set_option maxRecDepth 20000 in
theorem ggX7_moveCanoe_X7_wayAt : GoodIn wsX7_moveCanoe wsX7_wayAt := goodIn_r _ [15, 16, 96, 97, 98, 99, 100, 101, 102, 103, 104, 105, 106, 107, 108, 109] (by decide +kernel) (by decide +kernel)
set_option maxRecDepth 20000 in
theorem gX7_moveCanoe_X7_wayAt : GoodIn wsX7_moveCanoe (wsV RX7 96 RX7 yX7_wayAt wsX7_wayAt) := goodIn_app (goodIn_of _ (by decide +kernel)) ggX7_moveCanoe_X7_wayAt
set_option maxRecDepth 20000 in
theorem ggX7_moveCanoe_X7_postAt : GoodIn wsX7_moveCanoe wsX7_postAt := goodIn_r _ [20, 21, 96, 97, 98, 99, 100, 101, 102, 103, 104, 105, 106, 107, 108, 109] (by decide +kernel) (by decide +kernel)
set_option maxRecDepth 20000 in
theorem gX7_moveCanoe_X7_postAt : GoodIn wsX7_moveCanoe (wsV RX7 84 RX7 yX7_postAt wsX7_postAt) := goodIn_app (goodIn_of _ (by decide +kernel)) ggX7_moveCanoe_X7_postAt
set_option maxRecDepth 20000 in
theorem ggX7_moveCanoe_X6_isOpenOn : GoodIn wsX7_moveCanoe wsX6_isOpenOn := goodIn_r _ [26, 27, 28, 29, 9, 30, 110, 111, 112, 113, 114, 115] (by decide +kernel) (by decide +kernel)
set_option maxRecDepth 20000 in
theorem gX7_moveCanoe_X6_isOpenOn : GoodIn wsX7_moveCanoe (wsV RX7 106 RX6 yX6_isOpenOn wsX6_isOpenOn) := goodIn_app (goodIn_of _ (by decide +kernel)) ggX7_moveCanoe_X6_isOpenOn
set_option maxRecDepth 20000 in
theorem ggX7_moveCanoe_X7_landCanoe : GoodIn wsX7_moveCanoe wsX7_landCanoe := goodIn_r _ [34, 1, 4, 35, 36, 37, 85, 86, 87, 88, 89, 90, 91, 92, 93, 94, 95, 96, 97, 98, 99, 100, 101, 102, 103, 104, 105, 106, 107, 108, 109, 116, 117, 118, 119] (by decide +kernel) (by decide +kernel)
set_option maxRecDepth 20000 in
theorem gX7_moveCanoe_X7_landCanoe : GoodIn wsX7_moveCanoe (wsV RX7 196 RX7 yX7_landCanoe wsX7_landCanoe) := goodIn_app (goodIn_of _ (by decide +kernel)) ggX7_moveCanoe_X7_landCanoe
set_option maxRecDepth 20000 in
theorem ggX7_moveCanoe_X7_landLetters : GoodIn wsX7_moveCanoe wsX7_landLetters := goodIn_r _ [41, 42, 43, 44, 45, 46, 47, 48, 9, 49, 50, 51, 52, 53, 54, 55, 56, 57, 58, 59, 60, 61, 62, 63, 64, 65, 66, 67, 68, 69, 70, 71, 72, 73, 74, 75, 76, 77, 78, 79, 80, 81, 82, 83, 84, 96, 97, 98, 99, 100, 101, 102, 103, 104, 105, 106, 107, 108, 109, 120, 121, 122, 123, 124, 125, 126, 127, 128, 129, 130, 131, 132, 133, 134, 135, 136, 137, 116, 117, 118, 119] (by decide +kernel) (by decide +kernel)
set_option maxRecDepth 20000 in
theorem gX7_moveCanoe_X7_landLetters : GoodIn wsX7_moveCanoe (wsV RX7 200 RX7 yX7_landLetters wsX7_landLetters) := goodIn_app (goodIn_of _ (by decide +kernel)) ggX7_moveCanoe_X7_landLetters
theorem dX7_moveCanoe_0 : decode cX7_moveCanoe 0 = .ok (.aload_n 0, 1) := by decide +kernel
theorem dX7_moveCanoe_1 : decode cX7_moveCanoe 1 = .ok (.iload_n 1, 1) := by decide +kernel
theorem dX7_moveCanoe_2 : decode cX7_moveCanoe 2 = .ok (.invokevirtual 138, 3) := by decide +kernel
theorem dX7_moveCanoe_5 : decode cX7_moveCanoe 5 = .ok (.astore_n 2, 1) := by decide +kernel
theorem dX7_moveCanoe_6 : decode cX7_moveCanoe 6 = .ok (.aload_n 2, 1) := by decide +kernel
theorem dX7_moveCanoe_7 : decode cX7_moveCanoe 7 = .ok (.ifnull 10, 3) := by decide +kernel
theorem dX7_moveCanoe_10 : decode cX7_moveCanoe 10 = .ok (.aload_n 2, 1) := by decide +kernel
theorem dX7_moveCanoe_11 : decode cX7_moveCanoe 11 = .ok (.getfield 142, 3) := by decide +kernel
theorem dX7_moveCanoe_14 : decode cX7_moveCanoe 14 = .ok (.ifCond .eq 4, 3) := by decide +kernel
theorem dX7_moveCanoe_17 : decode cX7_moveCanoe 17 = .ok (.return_, 1) := by decide +kernel
theorem dX7_moveCanoe_18 : decode cX7_moveCanoe 18 = .ok (.aload_n 0, 1) := by decide +kernel
theorem dX7_moveCanoe_19 : decode cX7_moveCanoe 19 = .ok (.aload_n 2, 1) := by decide +kernel
theorem dX7_moveCanoe_20 : decode cX7_moveCanoe 20 = .ok (.getfield 193, 3) := by decide +kernel
theorem dX7_moveCanoe_23 : decode cX7_moveCanoe 23 = .ok (.invokevirtual 96, 3) := by decide +kernel
theorem dX7_moveCanoe_26 : decode cX7_moveCanoe 26 = .ok (.astore_n 3, 1) := by decide +kernel
theorem dX7_moveCanoe_27 : decode cX7_moveCanoe 27 = .ok (.aload_n 0, 1) := by decide +kernel
theorem dX7_moveCanoe_28 : decode cX7_moveCanoe 28 = .ok (.aload_n 2, 1) := by decide +kernel
theorem dX7_moveCanoe_29 : decode cX7_moveCanoe 29 = .ok (.getfield 184, 3) := by decide +kernel
theorem dX7_moveCanoe_32 : decode cX7_moveCanoe 32 = .ok (.invokevirtual 84, 3) := by decide +kernel
theorem dX7_moveCanoe_35 : decode cX7_moveCanoe 35 = .ok (.astore 4, 2) := by decide +kernel
theorem dX7_moveCanoe_37 : decode cX7_moveCanoe 37 = .ok (.aload_n 3, 1) := by decide +kernel
theorem dX7_moveCanoe_38 : decode cX7_moveCanoe 38 = .ok (.ifnull 19, 3) := by decide +kernel
theorem dX7_moveCanoe_41 : decode cX7_moveCanoe 41 = .ok (.aload 4, 2) := by decide +kernel
theorem dX7_moveCanoe_43 : decode cX7_moveCanoe 43 = .ok (.ifnull 14, 3) := by decide +kernel
theorem dX7_moveCanoe_46 : decode cX7_moveCanoe 46 = .ok (.aload_n 3, 1) := by decide +kernel
theorem dX7_moveCanoe_47 : decode cX7_moveCanoe 47 = .ok (.aload_n 0, 1) := by decide +kernel
theorem dX7_moveCanoe_48 : decode cX7_moveCanoe 48 = .ok (.getfield 103, 3) := by decide +kernel
theorem dX7_moveCanoe_51 : decode cX7_moveCanoe 51 = .ok (.invokevirtual 106, 3) := by decide +kernel
theorem dX7_moveCanoe_54 : decode cX7_moveCanoe 54 = .ok (.ifCond .ne 4, 3) := by decide +kernel
theorem dX7_moveCanoe_57 : decode cX7_moveCanoe 57 = .ok (.return_, 1) := by decide +kernel
theorem dX7_moveCanoe_58 : decode cX7_moveCanoe 58 = .ok (.aload_n 2, 1) := by decide +kernel
theorem dX7_moveCanoe_59 : decode cX7_moveCanoe 59 = .ok (.dup, 1) := by decide +kernel
theorem dX7_moveCanoe_60 : decode cX7_moveCanoe 60 = .ok (.getfield 145, 3) := by decide +kernel
theorem dX7_moveCanoe_63 : decode cX7_moveCanoe 63 = .ok (.iconst 1, 1) := by decide +kernel
theorem dX7_moveCanoe_64 : decode cX7_moveCanoe 64 = .ok (.isub, 1) := by decide +kernel
theorem dX7_moveCanoe_65 : decode cX7_moveCanoe 65 = .ok (.putfield 145, 3) := by decide +kernel
theorem dX7_moveCanoe_68 : decode cX7_moveCanoe 68 = .ok (.aload_n 2, 1) := by decide +kernel
theorem dX7_moveCanoe_69 : decode cX7_moveCanoe 69 = .ok (.getfield 145, 3) := by decide +kernel
theorem dX7_moveCanoe_72 : decode cX7_moveCanoe 72 = .ok (.ifCond .ne 21, 3) := by decide +kernel
theorem dX7_moveCanoe_75 : decode cX7_moveCanoe 75 = .ok (.aload_n 0, 1) := by decide +kernel
theorem dX7_moveCanoe_76 : decode cX7_moveCanoe 76 = .ok (.aload_n 2, 1) := by decide +kernel
theorem dX7_moveCanoe_77 : decode cX7_moveCanoe 77 = .ok (.aload 4, 2) := by decide +kernel
theorem dX7_moveCanoe_79 : decode cX7_moveCanoe 79 = .ok (.invokevirtual 196, 3) := by decide +kernel
theorem dX7_moveCanoe_82 : decode cX7_moveCanoe 82 = .ok (.aload_n 0, 1) := by decide +kernel
theorem dX7_moveCanoe_83 : decode cX7_moveCanoe 83 = .ok (.iload_n 1, 1) := by decide +kernel
theorem dX7_moveCanoe_84 : decode cX7_moveCanoe 84 = .ok (.aload_n 2, 1) := by decide +kernel
theorem dX7_moveCanoe_85 : decode cX7_moveCanoe 85 = .ok (.getfield 184, 3) := by decide +kernel
theorem dX7_moveCanoe_88 : decode cX7_moveCanoe 88 = .ok (.aload 4, 2) := by decide +kernel
theorem dX7_moveCanoe_90 : decode cX7_moveCanoe 90 = .ok (.invokevirtual 200, 3) := by decide +kernel
theorem dX7_moveCanoe_93 : decode cX7_moveCanoe 93 = .ok (.return_, 1) := by decide +kernel
theorem dX7_landCanoe_0 : decode cX7_landCanoe 0 = .ok (.aload_n 1, 1) := by decide +kernel
theorem dX7_landCanoe_1 : decode cX7_landCanoe 1 = .ok (.iconst 1, 1) := by decide +kernel
theorem dX7_landCanoe_2 : decode cX7_landCanoe 2 = .ok (.putfield 142, 3) := by decide +kernel
theorem dX7_landCanoe_5 : decode cX7_landCanoe 5 = .ok (.aload_n 1, 1) := by decide +kernel
theorem dX7_landCanoe_6 : decode cX7_landCanoe 6 = .ok (.aload_n 0, 1) := by decide +kernel
theorem dX7_landCanoe_7 : decode cX7_landCanoe 7 = .ok (.getfield 103, 3) := by decide +kernel
theorem dX7_landCanoe_10 : decode cX7_landCanoe 10 = .ok (.putfield 204, 3) := by decide +kernel
theorem dX7_landCanoe_13 : decode cX7_landCanoe 13 = .ok (.iconst 0, 1) := by decide +kernel
theorem dX7_landCanoe_14 : decode cX7_landCanoe 14 = .ok (.istore_n 3, 1) := by decide +kernel
theorem dX7_landCanoe_15 : decode cX7_landCanoe 15 = .ok (.iload_n 3, 1) := by decide +kernel
theorem dX7_landCanoe_16 : decode cX7_landCanoe 16 = .ok (.bipush 6, 2) := by decide +kernel
theorem dX7_landCanoe_18 : decode cX7_landCanoe 18 = .ok (.if_icmp .ge 31, 3) := by decide +kernel
theorem dX7_landCanoe_21 : decode cX7_landCanoe 21 = .ok (.aload_n 2, 1) := by decide +kernel
theorem dX7_landCanoe_22 : decode cX7_landCanoe 22 = .ok (.getfield 92, 3) := by decide +kernel
end
section
theorem dX7_landCanoe_25 : decode cX7_landCanoe 25 = .ok (.iload_n 3, 1) := by decide +kernel
theorem dX7_landCanoe_26 : decode cX7_landCanoe 26 = .ok (.dup2, 1) := by decide +kernel
theorem dX7_landCanoe_27 : decode cX7_landCanoe 27 = .ok (.iaload, 1) := by decide +kernel
theorem dX7_landCanoe_28 : decode cX7_landCanoe 28 = .ok (.aload_n 1, 1) := by decide +kernel
theorem dX7_landCanoe_29 : decode cX7_landCanoe 29 = .ok (.getfield 148, 3) := by decide +kernel
theorem dX7_landCanoe_32 : decode cX7_landCanoe 32 = .ok (.iload_n 3, 1) := by decide +kernel
theorem dX7_landCanoe_33 : decode cX7_landCanoe 33 = .ok (.iaload, 1) := by decide +kernel
theorem dX7_landCanoe_34 : decode cX7_landCanoe 34 = .ok (.iadd, 1) := by decide +kernel
theorem dX7_landCanoe_35 : decode cX7_landCanoe 35 = .ok (.iastore, 1) := by decide +kernel
theorem dX7_landCanoe_36 : decode cX7_landCanoe 36 = .ok (.aload_n 1, 1) := by decide +kernel
theorem dX7_landCanoe_37 : decode cX7_landCanoe 37 = .ok (.getfield 148, 3) := by decide +kernel
theorem dX7_landCanoe_40 : decode cX7_landCanoe 40 = .ok (.iload_n 3, 1) := by decide +kernel
theorem dX7_landCanoe_41 : decode cX7_landCanoe 41 = .ok (.iconst 0, 1) := by decide +kernel
theorem dX7_landCanoe_42 : decode cX7_landCanoe 42 = .ok (.iastore, 1) := by decide +kernel
theorem dX7_landCanoe_43 : decode cX7_landCanoe 43 = .ok (.iinc 3 1, 3) := by decide +kernel
theorem dX7_landCanoe_46 : decode cX7_landCanoe 46 = .ok (.goto (-31), 3) := by decide +kernel
theorem dX7_landCanoe_49 : decode cX7_landCanoe 49 = .ok (.return_, 1) := by decide +kernel
set_option maxRecDepth 20000 in
theorem ggX7_landLetters_X7_letterAt : GoodIn wsX7_landLetters wsX7_letterAt := goodIn_r _ [9, 10, 45, 46, 47, 48, 49, 50, 51, 52, 53, 54, 55, 56, 57, 58] (by decide +kernel) (by decide +kernel)
set_option maxRecDepth 20000 in
theorem gX7_landLetters_X7_letterAt : GoodIn wsX7_landLetters (wsV RX7 168 RX7 yX7_letterAt wsX7_letterAt) := goodIn_app (goodIn_of _ (by decide +kernel)) ggX7_landLetters_X7_letterAt
set_option maxRecDepth 20000 in
theorem ggX7_landLetters_X1_readAt : GoodIn wsX7_landLetters wsX1_readAt := goodIn_r _ [16, 17, 18, 19, 20, 8, 21, 59, 60, 61, 62, 63, 64, 77, 78, 79, 80] (by decide +kernel) (by decide +kernel)
set_option maxRecDepth 20000 in
theorem gX7_landLetters_X1_readAt_u207X1 : GoodIn wsX7_landLetters (va_wsU RX7 207 RX1 "FurPosts$Letter" ⟨"FurPosts$Letter", "readAt", "(LFurPosts$Post;)V"⟩ yX1_readAt wsX1_readAt) := goodIn_app (goodIn_of _ (by decide +kernel)) ggX7_landLetters_X1_readAt
set_option maxRecDepth 20000 in
theorem ggX7_landLetters_X3_readAt : GoodIn wsX7_landLetters wsX3_readAt := goodIn_r _ [25, 26, 27, 28, 29, 8, 30, 65, 66, 67, 68, 69, 70, 77, 78, 79, 80] (by decide +kernel) (by decide +kernel)
set_option maxRecDepth 20000 in
theorem gX7_landLetters_X3_readAt_u207X3 : GoodIn wsX7_landLetters (va_wsU RX7 207 RX3 "FurPosts$Letter" ⟨"FurPosts$Letter", "readAt", "(LFurPosts$Post;)V"⟩ yX3_readAt wsX3_readAt) := goodIn_app (goodIn_of _ (by decide +kernel)) ggX7_landLetters_X3_readAt
set_option maxRecDepth 20000 in
theorem ggX7_landLetters_X5_readAt : GoodIn wsX7_landLetters wsX5_readAt := goodIn_r _ [34, 35, 36, 37, 38, 39, 40, 41, 42, 43, 44, 59, 60, 61, 62, 63, 64, 65, 66, 67, 68, 69, 70, 71, 72, 73, 74, 75, 76, 77, 78, 79, 80] (by decide +kernel) (by decide +kernel)
set_option maxRecDepth 20000 in
theorem gX7_landLetters_X5_readAt_u207X5 : GoodIn wsX7_landLetters (va_wsU RX7 207 RX5 "FurPosts$Letter" ⟨"FurPosts$Letter", "readAt", "(LFurPosts$Post;)V"⟩ yX5_readAt wsX5_readAt) := goodIn_app (goodIn_of _ (by decide +kernel)) ggX7_landLetters_X5_readAt
theorem dX7_landLetters_0 : decode cX7_landLetters 0 = .ok (.iconst 0, 1) := by decide +kernel
theorem dX7_landLetters_1 : decode cX7_landLetters 1 = .ok (.istore 4, 2) := by decide +kernel
theorem dX7_landLetters_3 : decode cX7_landLetters 3 = .ok (.iload 4, 2) := by decide +kernel
theorem dX7_landLetters_5 : decode cX7_landLetters 5 = .ok (.aload_n 0, 1) := by decide +kernel
theorem dX7_landLetters_6 : decode cX7_landLetters 6 = .ok (.getfield 165, 3) := by decide +kernel
theorem dX7_landLetters_9 : decode cX7_landLetters 9 = .ok (.if_icmp .ge 61, 3) := by decide +kernel
theorem dX7_landLetters_12 : decode cX7_landLetters 12 = .ok (.aload_n 0, 1) := by decide +kernel
theorem dX7_landLetters_13 : decode cX7_landLetters 13 = .ok (.iload 4, 2) := by decide +kernel
theorem dX7_landLetters_15 : decode cX7_landLetters 15 = .ok (.invokevirtual 168, 3) := by decide +kernel
theorem dX7_landLetters_18 : decode cX7_landLetters 18 = .ok (.astore 5, 2) := by decide +kernel
theorem dX7_landLetters_20 : decode cX7_landLetters 20 = .ok (.aload 5, 2) := by decide +kernel
theorem dX7_landLetters_22 : decode cX7_landLetters 22 = .ok (.ifnull 42, 3) := by decide +kernel
theorem dX7_landLetters_25 : decode cX7_landLetters 25 = .ok (.aload 5, 2) := by decide +kernel
theorem dX7_landLetters_27 : decode cX7_landLetters 27 = .ok (.getfield 185, 3) := by decide +kernel
theorem dX7_landLetters_30 : decode cX7_landLetters 30 = .ok (.iload_n 1, 1) := by decide +kernel
theorem dX7_landLetters_31 : decode cX7_landLetters 31 = .ok (.if_icmp .ne 33, 3) := by decide +kernel
theorem dX7_landLetters_34 : decode cX7_landLetters 34 = .ok (.aload 5, 2) := by decide +kernel
theorem dX7_landLetters_36 : decode cX7_landLetters 36 = .ok (.iconst (-1), 1) := by decide +kernel
theorem dX7_landLetters_37 : decode cX7_landLetters 37 = .ok (.putfield 185, 3) := by decide +kernel
theorem dX7_landLetters_40 : decode cX7_landLetters 40 = .ok (.aload 5, 2) := by decide +kernel
theorem dX7_landLetters_42 : decode cX7_landLetters 42 = .ok (.getfield 178, 3) := by decide +kernel
theorem dX7_landLetters_45 : decode cX7_landLetters 45 = .ok (.iload_n 2, 1) := by decide +kernel
theorem dX7_landLetters_46 : decode cX7_landLetters 46 = .ok (.if_icmp .ne 12, 3) := by decide +kernel
theorem dX7_landLetters_49 : decode cX7_landLetters 49 = .ok (.aload 5, 2) := by decide +kernel
theorem dX7_landLetters_51 : decode cX7_landLetters 51 = .ok (.aload_n 3, 1) := by decide +kernel
theorem dX7_landLetters_52 : decode cX7_landLetters 52 = .ok (.invokevirtual 207, 3) := by decide +kernel
theorem dX7_landLetters_55 : decode cX7_landLetters 55 = .ok (.goto 9, 3) := by decide +kernel
theorem dX7_landLetters_58 : decode cX7_landLetters 58 = .ok (.aload 5, 2) := by decide +kernel
theorem dX7_landLetters_60 : decode cX7_landLetters 60 = .ok (.iload_n 2, 1) := by decide +kernel
theorem dX7_landLetters_61 : decode cX7_landLetters 61 = .ok (.putfield 172, 3) := by decide +kernel
theorem dX7_landLetters_64 : decode cX7_landLetters 64 = .ok (.iinc 4 1, 3) := by decide +kernel
theorem dX7_landLetters_67 : decode cX7_landLetters 67 = .ok (.goto (-64), 3) := by decide +kernel
theorem dX7_landLetters_70 : decode cX7_landLetters 70 = .ok (.return_, 1) := by decide +kernel
set_option maxRecDepth 20000 in
theorem ggX7_sell_X7_postAt : GoodIn wsX7_sell wsX7_postAt := goodIn_r _ [10, 11, 28, 29, 30, 31, 32, 33, 34, 35, 36, 37, 38, 39, 40, 41] (by decide +kernel) (by decide +kernel)
set_option maxRecDepth 20000 in
theorem gX7_sell_X7_postAt : GoodIn wsX7_sell (wsV RX7 84 RX7 yX7_postAt wsX7_postAt) := goodIn_app (goodIn_of _ (by decide +kernel)) ggX7_sell_X7_postAt
set_option maxRecDepth 20000 in
theorem ggX7_sell_X7_isTrade : GoodIn wsX7_sell wsX7_isTrade := goodIn_r _ [14, 15, 16, 9, 17, 18, 19, 20, 21, 22, 23] (by decide +kernel) (by decide +kernel)
set_option maxRecDepth 20000 in
theorem gX7_sell_X7_isTrade : GoodIn wsX7_sell (va_wsS RX7 211 yX7_isTrade wsX7_isTrade) := goodIn_app (goodIn_of _ (by decide +kernel)) ggX7_sell_X7_isTrade
theorem dX7_sell_0 : decode cX7_sell 0 = .ok (.aload_n 0, 1) := by decide +kernel
theorem dX7_sell_1 : decode cX7_sell 1 = .ok (.iload_n 1, 1) := by decide +kernel
theorem dX7_sell_2 : decode cX7_sell 2 = .ok (.invokevirtual 84, 3) := by decide +kernel
theorem dX7_sell_5 : decode cX7_sell 5 = .ok (.astore 5, 2) := by decide +kernel
theorem dX7_sell_7 : decode cX7_sell 7 = .ok (.aload 5, 2) := by decide +kernel
theorem dX7_sell_9 : decode cX7_sell 9 = .ok (.ifnull 25, 3) := by decide +kernel
theorem dX7_sell_12 : decode cX7_sell 12 = .ok (.iload_n 2, 1) := by decide +kernel
theorem dX7_sell_13 : decode cX7_sell 13 = .ok (.iload_n 3, 1) := by decide +kernel
theorem dX7_sell_14 : decode cX7_sell 14 = .ok (.iload 4, 2) := by decide +kernel
theorem dX7_sell_16 : decode cX7_sell 16 = .ok (.invokestatic 211, 3) := by decide +kernel
theorem dX7_sell_19 : decode cX7_sell 19 = .ok (.ifCond .eq 15, 3) := by decide +kernel
theorem dX7_sell_22 : decode cX7_sell 22 = .ok (.aload 5, 2) := by decide +kernel
theorem dX7_sell_24 : decode cX7_sell 24 = .ok (.getfield 92, 3) := by decide +kernel
theorem dX7_sell_27 : decode cX7_sell 27 = .ok (.iload_n 3, 1) := by decide +kernel
theorem dX7_sell_28 : decode cX7_sell 28 = .ok (.iaload, 1) := by decide +kernel
theorem dX7_sell_29 : decode cX7_sell 29 = .ok (.iload 4, 2) := by decide +kernel
theorem dX7_sell_31 : decode cX7_sell 31 = .ok (.if_icmp .ge 5, 3) := by decide +kernel
theorem dX7_sell_34 : decode cX7_sell 34 = .ok (.iconst (-1), 1) := by decide +kernel
theorem dX7_sell_35 : decode cX7_sell 35 = .ok (.ireturn, 1) := by decide +kernel
theorem dX7_sell_36 : decode cX7_sell 36 = .ok (.aload 5, 2) := by decide +kernel
theorem dX7_sell_38 : decode cX7_sell 38 = .ok (.getfield 214, 3) := by decide +kernel
theorem dX7_sell_41 : decode cX7_sell 41 = .ok (.iload_n 2, 1) := by decide +kernel
theorem dX7_sell_42 : decode cX7_sell 42 = .ok (.iaload, 1) := by decide +kernel
theorem dX7_sell_43 : decode cX7_sell 43 = .ok (.aload 5, 2) := by decide +kernel
theorem dX7_sell_45 : decode cX7_sell 45 = .ok (.getfield 217, 3) := by decide +kernel
theorem dX7_sell_48 : decode cX7_sell 48 = .ok (.iload_n 3, 1) := by decide +kernel
theorem dX7_sell_49 : decode cX7_sell 49 = .ok (.iaload, 1) := by decide +kernel
theorem dX7_sell_50 : decode cX7_sell 50 = .ok (.iload 4, 2) := by decide +kernel
theorem dX7_sell_52 : decode cX7_sell 52 = .ok (.imul, 1) := by decide +kernel
theorem dX7_sell_53 : decode cX7_sell 53 = .ok (.iadd, 1) := by decide +kernel
theorem dX7_sell_54 : decode cX7_sell 54 = .ok (.istore 6, 2) := by decide +kernel
theorem dX7_sell_56 : decode cX7_sell 56 = .ok (.iload 6, 2) := by decide +kernel
theorem dX7_sell_58 : decode cX7_sell 58 = .ok (.ldc 95, 2) := by decide +kernel
theorem dX7_sell_60 : decode cX7_sell 60 = .ok (.if_icmp .le 5, 3) := by decide +kernel
theorem dX7_sell_63 : decode cX7_sell 63 = .ok (.iconst (-1), 1) := by decide +kernel
theorem dX7_sell_64 : decode cX7_sell 64 = .ok (.ireturn, 1) := by decide +kernel
theorem dX7_sell_65 : decode cX7_sell 65 = .ok (.aload 5, 2) := by decide +kernel
theorem dX7_sell_67 : decode cX7_sell 67 = .ok (.getfield 92, 3) := by decide +kernel
theorem dX7_sell_70 : decode cX7_sell 70 = .ok (.iload_n 3, 1) := by decide +kernel
theorem dX7_sell_71 : decode cX7_sell 71 = .ok (.dup2, 1) := by decide +kernel
theorem dX7_sell_72 : decode cX7_sell 72 = .ok (.iaload, 1) := by decide +kernel
theorem dX7_sell_73 : decode cX7_sell 73 = .ok (.iload 4, 2) := by decide +kernel
theorem dX7_sell_75 : decode cX7_sell 75 = .ok (.isub, 1) := by decide +kernel
theorem dX7_sell_76 : decode cX7_sell 76 = .ok (.iastore, 1) := by decide +kernel
theorem dX7_sell_77 : decode cX7_sell 77 = .ok (.aload 5, 2) := by decide +kernel
theorem dX7_sell_79 : decode cX7_sell 79 = .ok (.getfield 214, 3) := by decide +kernel
theorem dX7_sell_82 : decode cX7_sell 82 = .ok (.iload_n 2, 1) := by decide +kernel
theorem dX7_sell_83 : decode cX7_sell 83 = .ok (.iload 6, 2) := by decide +kernel
theorem dX7_sell_85 : decode cX7_sell 85 = .ok (.iastore, 1) := by decide +kernel
theorem dX7_sell_86 : decode cX7_sell 86 = .ok (.aload_n 0, 1) := by decide +kernel
theorem dX7_sell_87 : decode cX7_sell 87 = .ok (.getfield 41, 3) := by decide +kernel
theorem dX7_sell_90 : decode cX7_sell 90 = .ok (.iload_n 3, 1) := by decide +kernel
theorem dX7_sell_91 : decode cX7_sell 91 = .ok (.aaload, 1) := by decide +kernel
theorem dX7_sell_92 : decode cX7_sell 92 = .ok (.iconst 1, 1) := by decide +kernel
theorem dX7_sell_93 : decode cX7_sell 93 = .ok (.dup2, 1) := by decide +kernel
theorem dX7_sell_94 : decode cX7_sell 94 = .ok (.iaload, 1) := by decide +kernel
theorem dX7_sell_95 : decode cX7_sell 95 = .ok (.iload 4, 2) := by decide +kernel
theorem dX7_sell_97 : decode cX7_sell 97 = .ok (.iadd, 1) := by decide +kernel
theorem dX7_sell_98 : decode cX7_sell 98 = .ok (.iastore, 1) := by decide +kernel
theorem dX7_sell_99 : decode cX7_sell 99 = .ok (.iload 6, 2) := by decide +kernel
theorem dX7_sell_101 : decode cX7_sell 101 = .ok (.ireturn, 1) := by decide +kernel
set_option maxRecDepth 20000 in
theorem ggX7_buy_X7_postAt : GoodIn wsX7_buy wsX7_postAt := goodIn_r _ [11, 12, 29, 30, 31, 32, 33, 34, 35, 36, 37, 38, 39, 40, 41, 42] (by decide +kernel) (by decide +kernel)
set_option maxRecDepth 20000 in
theorem gX7_buy_X7_postAt : GoodIn wsX7_buy (wsV RX7 84 RX7 yX7_postAt wsX7_postAt) := goodIn_app (goodIn_of _ (by decide +kernel)) ggX7_buy_X7_postAt
set_option maxRecDepth 20000 in
theorem ggX7_buy_X7_isTrade : GoodIn wsX7_buy wsX7_isTrade := goodIn_r _ [15, 16, 17, 10, 18, 19, 20, 21, 22, 23, 24] (by decide +kernel) (by decide +kernel)
set_option maxRecDepth 20000 in
theorem gX7_buy_X7_isTrade : GoodIn wsX7_buy (va_wsS RX7 211 yX7_isTrade wsX7_isTrade) := goodIn_app (goodIn_of _ (by decide +kernel)) ggX7_buy_X7_isTrade
theorem dX7_buy_0 : decode cX7_buy 0 = .ok (.aload_n 0, 1) := by decide +kernel
theorem dX7_buy_1 : decode cX7_buy 1 = .ok (.iload_n 1, 1) := by decide +kernel
theorem dX7_buy_2 : decode cX7_buy 2 = .ok (.invokevirtual 84, 3) := by decide +kernel
theorem dX7_buy_5 : decode cX7_buy 5 = .ok (.astore 5, 2) := by decide +kernel
theorem dX7_buy_7 : decode cX7_buy 7 = .ok (.aload 5, 2) := by decide +kernel
theorem dX7_buy_9 : decode cX7_buy 9 = .ok (.ifnull 28, 3) := by decide +kernel
theorem dX7_buy_12 : decode cX7_buy 12 = .ok (.iload_n 2, 1) := by decide +kernel
theorem dX7_buy_13 : decode cX7_buy 13 = .ok (.iload_n 3, 1) := by decide +kernel
theorem dX7_buy_14 : decode cX7_buy 14 = .ok (.iload 4, 2) := by decide +kernel
theorem dX7_buy_16 : decode cX7_buy 16 = .ok (.invokestatic 211, 3) := by decide +kernel
theorem dX7_buy_19 : decode cX7_buy 19 = .ok (.ifCond .eq 18, 3) := by decide +kernel
theorem dX7_buy_22 : decode cX7_buy 22 = .ok (.aload 5, 2) := by decide +kernel
theorem dX7_buy_24 : decode cX7_buy 24 = .ok (.getfield 92, 3) := by decide +kernel
theorem dX7_buy_27 : decode cX7_buy 27 = .ok (.iload_n 3, 1) := by decide +kernel
theorem dX7_buy_28 : decode cX7_buy 28 = .ok (.iaload, 1) := by decide +kernel
theorem dX7_buy_29 : decode cX7_buy 29 = .ok (.iload 4, 2) := by decide +kernel
theorem dX7_buy_31 : decode cX7_buy 31 = .ok (.iadd, 1) := by decide +kernel
theorem dX7_buy_32 : decode cX7_buy 32 = .ok (.ldc 95, 2) := by decide +kernel
theorem dX7_buy_34 : decode cX7_buy 34 = .ok (.if_icmp .le 5, 3) := by decide +kernel
theorem dX7_buy_37 : decode cX7_buy 37 = .ok (.iconst (-1), 1) := by decide +kernel
theorem dX7_buy_38 : decode cX7_buy 38 = .ok (.ireturn, 1) := by decide +kernel
theorem dX7_buy_39 : decode cX7_buy 39 = .ok (.aload 5, 2) := by decide +kernel
theorem dX7_buy_41 : decode cX7_buy 41 = .ok (.getfield 214, 3) := by decide +kernel
theorem dX7_buy_44 : decode cX7_buy 44 = .ok (.iload_n 2, 1) := by decide +kernel
theorem dX7_buy_45 : decode cX7_buy 45 = .ok (.iaload, 1) := by decide +kernel
theorem dX7_buy_46 : decode cX7_buy 46 = .ok (.aload 5, 2) := by decide +kernel
theorem dX7_buy_48 : decode cX7_buy 48 = .ok (.getfield 217, 3) := by decide +kernel
theorem dX7_buy_51 : decode cX7_buy 51 = .ok (.iload_n 3, 1) := by decide +kernel
theorem dX7_buy_52 : decode cX7_buy 52 = .ok (.iaload, 1) := by decide +kernel
theorem dX7_buy_53 : decode cX7_buy 53 = .ok (.iload 4, 2) := by decide +kernel
theorem dX7_buy_55 : decode cX7_buy 55 = .ok (.imul, 1) := by decide +kernel
theorem dX7_buy_56 : decode cX7_buy 56 = .ok (.isub, 1) := by decide +kernel
theorem dX7_buy_57 : decode cX7_buy 57 = .ok (.istore 6, 2) := by decide +kernel
theorem dX7_buy_59 : decode cX7_buy 59 = .ok (.iload 6, 2) := by decide +kernel
theorem dX7_buy_61 : decode cX7_buy 61 = .ok (.ldc 220, 2) := by decide +kernel
theorem dX7_buy_63 : decode cX7_buy 63 = .ok (.if_icmp .ge 5, 3) := by decide +kernel
theorem dX7_buy_66 : decode cX7_buy 66 = .ok (.iconst (-1), 1) := by decide +kernel
theorem dX7_buy_67 : decode cX7_buy 67 = .ok (.ireturn, 1) := by decide +kernel
theorem dX7_buy_68 : decode cX7_buy 68 = .ok (.aload 5, 2) := by decide +kernel
theorem dX7_buy_70 : decode cX7_buy 70 = .ok (.getfield 92, 3) := by decide +kernel
theorem dX7_buy_73 : decode cX7_buy 73 = .ok (.iload_n 3, 1) := by decide +kernel
theorem dX7_buy_74 : decode cX7_buy 74 = .ok (.dup2, 1) := by decide +kernel
theorem dX7_buy_75 : decode cX7_buy 75 = .ok (.iaload, 1) := by decide +kernel
theorem dX7_buy_76 : decode cX7_buy 76 = .ok (.iload 4, 2) := by decide +kernel
theorem dX7_buy_78 : decode cX7_buy 78 = .ok (.iadd, 1) := by decide +kernel
theorem dX7_buy_79 : decode cX7_buy 79 = .ok (.iastore, 1) := by decide +kernel
theorem dX7_buy_80 : decode cX7_buy 80 = .ok (.aload 5, 2) := by decide +kernel
theorem dX7_buy_82 : decode cX7_buy 82 = .ok (.getfield 214, 3) := by decide +kernel
theorem dX7_buy_85 : decode cX7_buy 85 = .ok (.iload_n 2, 1) := by decide +kernel
theorem dX7_buy_86 : decode cX7_buy 86 = .ok (.iload 6, 2) := by decide +kernel
theorem dX7_buy_88 : decode cX7_buy 88 = .ok (.iastore, 1) := by decide +kernel
theorem dX7_buy_89 : decode cX7_buy 89 = .ok (.aload_n 0, 1) := by decide +kernel
theorem dX7_buy_90 : decode cX7_buy 90 = .ok (.getfield 41, 3) := by decide +kernel
theorem dX7_buy_93 : decode cX7_buy 93 = .ok (.iload_n 3, 1) := by decide +kernel
theorem dX7_buy_94 : decode cX7_buy 94 = .ok (.aaload, 1) := by decide +kernel
theorem dX7_buy_95 : decode cX7_buy 95 = .ok (.iconst 2, 1) := by decide +kernel
theorem dX7_buy_96 : decode cX7_buy 96 = .ok (.dup2, 1) := by decide +kernel
theorem dX7_buy_97 : decode cX7_buy 97 = .ok (.iaload, 1) := by decide +kernel
theorem dX7_buy_98 : decode cX7_buy 98 = .ok (.iload 4, 2) := by decide +kernel
theorem dX7_buy_100 : decode cX7_buy 100 = .ok (.iadd, 1) := by decide +kernel
theorem dX7_buy_101 : decode cX7_buy 101 = .ok (.iastore, 1) := by decide +kernel
theorem dX7_buy_102 : decode cX7_buy 102 = .ok (.iload 6, 2) := by decide +kernel
theorem dX7_buy_104 : decode cX7_buy 104 = .ok (.ireturn, 1) := by decide +kernel
set_option maxRecDepth 20000 in
theorem ggX7_give_X7_postAt : GoodIn wsX7_give wsX7_postAt := goodIn_r _ [7, 8, 25, 26, 27, 28, 29, 30, 31, 32, 33, 34, 35, 36, 37, 38] (by decide +kernel) (by decide +kernel)
set_option maxRecDepth 20000 in
theorem gX7_give_X7_postAt : GoodIn wsX7_give (wsV RX7 84 RX7 yX7_postAt wsX7_postAt) := goodIn_app (goodIn_of _ (by decide +kernel)) ggX7_give_X7_postAt
set_option maxRecDepth 20000 in
theorem ggX7_give_X7_isTrade : GoodIn wsX7_give wsX7_isTrade := goodIn_r _ [11, 12, 13, 6, 14, 15, 16, 17, 18, 19, 20] (by decide +kernel) (by decide +kernel)
set_option maxRecDepth 20000 in
theorem gX7_give_X7_isTrade : GoodIn wsX7_give (va_wsS RX7 211 yX7_isTrade wsX7_isTrade) := goodIn_app (goodIn_of _ (by decide +kernel)) ggX7_give_X7_isTrade
theorem dX7_give_0 : decode cX7_give 0 = .ok (.aload_n 0, 1) := by decide +kernel
theorem dX7_give_1 : decode cX7_give 1 = .ok (.iload_n 1, 1) := by decide +kernel
theorem dX7_give_2 : decode cX7_give 2 = .ok (.invokevirtual 84, 3) := by decide +kernel
theorem dX7_give_5 : decode cX7_give 5 = .ok (.astore 5, 2) := by decide +kernel
theorem dX7_give_7 : decode cX7_give 7 = .ok (.aload 5, 2) := by decide +kernel
theorem dX7_give_9 : decode cX7_give 9 = .ok (.ifnull 25, 3) := by decide +kernel
theorem dX7_give_12 : decode cX7_give 12 = .ok (.iload_n 2, 1) := by decide +kernel
theorem dX7_give_13 : decode cX7_give 13 = .ok (.iload_n 3, 1) := by decide +kernel
theorem dX7_give_14 : decode cX7_give 14 = .ok (.iload 4, 2) := by decide +kernel
theorem dX7_give_16 : decode cX7_give 16 = .ok (.invokestatic 211, 3) := by decide +kernel
theorem dX7_give_19 : decode cX7_give 19 = .ok (.ifCond .eq 15, 3) := by decide +kernel
theorem dX7_give_22 : decode cX7_give 22 = .ok (.aload 5, 2) := by decide +kernel
theorem dX7_give_24 : decode cX7_give 24 = .ok (.getfield 92, 3) := by decide +kernel
theorem dX7_give_27 : decode cX7_give 27 = .ok (.iload_n 3, 1) := by decide +kernel
theorem dX7_give_28 : decode cX7_give 28 = .ok (.iaload, 1) := by decide +kernel
theorem dX7_give_29 : decode cX7_give 29 = .ok (.iload 4, 2) := by decide +kernel
theorem dX7_give_31 : decode cX7_give 31 = .ok (.if_icmp .ge 5, 3) := by decide +kernel
theorem dX7_give_34 : decode cX7_give 34 = .ok (.iconst (-1), 1) := by decide +kernel
theorem dX7_give_35 : decode cX7_give 35 = .ok (.ireturn, 1) := by decide +kernel
theorem dX7_give_36 : decode cX7_give 36 = .ok (.aload 5, 2) := by decide +kernel
theorem dX7_give_38 : decode cX7_give 38 = .ok (.getfield 92, 3) := by decide +kernel
theorem dX7_give_41 : decode cX7_give 41 = .ok (.iload_n 3, 1) := by decide +kernel
theorem dX7_give_42 : decode cX7_give 42 = .ok (.dup2, 1) := by decide +kernel
theorem dX7_give_43 : decode cX7_give 43 = .ok (.iaload, 1) := by decide +kernel
theorem dX7_give_44 : decode cX7_give 44 = .ok (.iload 4, 2) := by decide +kernel
theorem dX7_give_46 : decode cX7_give 46 = .ok (.isub, 1) := by decide +kernel
theorem dX7_give_47 : decode cX7_give 47 = .ok (.iastore, 1) := by decide +kernel
theorem dX7_give_48 : decode cX7_give 48 = .ok (.aload_n 0, 1) := by decide +kernel
theorem dX7_give_49 : decode cX7_give 49 = .ok (.getfield 41, 3) := by decide +kernel
theorem dX7_give_52 : decode cX7_give 52 = .ok (.iload_n 3, 1) := by decide +kernel
theorem dX7_give_53 : decode cX7_give 53 = .ok (.aaload, 1) := by decide +kernel
theorem dX7_give_54 : decode cX7_give 54 = .ok (.iconst 3, 1) := by decide +kernel
theorem dX7_give_55 : decode cX7_give 55 = .ok (.dup2, 1) := by decide +kernel
theorem dX7_give_56 : decode cX7_give 56 = .ok (.iaload, 1) := by decide +kernel
theorem dX7_give_57 : decode cX7_give 57 = .ok (.iload 4, 2) := by decide +kernel
theorem dX7_give_59 : decode cX7_give 59 = .ok (.iadd, 1) := by decide +kernel
theorem dX7_give_60 : decode cX7_give 60 = .ok (.iastore, 1) := by decide +kernel
theorem dX7_give_61 : decode cX7_give 61 = .ok (.aload 5, 2) := by decide +kernel
theorem dX7_give_63 : decode cX7_give 63 = .ok (.getfield 92, 3) := by decide +kernel
theorem dX7_give_66 : decode cX7_give 66 = .ok (.iload_n 3, 1) := by decide +kernel
theorem dX7_give_67 : decode cX7_give 67 = .ok (.iaload, 1) := by decide +kernel
theorem dX7_give_68 : decode cX7_give 68 = .ok (.ireturn, 1) := by decide +kernel
set_option maxRecDepth 20000 in
theorem ggX7_owes_X7_postAt : GoodIn wsX7_owes wsX7_postAt := goodIn_r _ [6, 7, 15, 16, 17, 18, 19, 20, 21, 22, 23, 24, 25, 26, 27, 28] (by decide +kernel) (by decide +kernel)
set_option maxRecDepth 20000 in
theorem gX7_owes_X7_postAt : GoodIn wsX7_owes (wsV RX7 84 RX7 yX7_postAt wsX7_postAt) := goodIn_app (goodIn_of _ (by decide +kernel)) ggX7_owes_X7_postAt
set_option maxRecDepth 20000 in
theorem ggX7_owes_X7_isHunter : GoodIn wsX7_owes wsX7_isHunter := goodIn_r _ [10] (by decide +kernel) (by decide +kernel)
set_option maxRecDepth 20000 in
theorem gX7_owes_X7_isHunter : GoodIn wsX7_owes (va_wsS RX7 221 yX7_isHunter wsX7_isHunter) := goodIn_app (goodIn_of _ (by decide +kernel)) ggX7_owes_X7_isHunter
theorem dX7_owes_0 : decode cX7_owes 0 = .ok (.aload_n 0, 1) := by decide +kernel
theorem dX7_owes_1 : decode cX7_owes 1 = .ok (.iload_n 1, 1) := by decide +kernel
theorem dX7_owes_2 : decode cX7_owes 2 = .ok (.invokevirtual 84, 3) := by decide +kernel
theorem dX7_owes_5 : decode cX7_owes 5 = .ok (.astore_n 3, 1) := by decide +kernel
theorem dX7_owes_6 : decode cX7_owes 6 = .ok (.aload_n 3, 1) := by decide +kernel
theorem dX7_owes_7 : decode cX7_owes 7 = .ok (.ifnull 10, 3) := by decide +kernel
theorem dX7_owes_10 : decode cX7_owes 10 = .ok (.iload_n 2, 1) := by decide +kernel
theorem dX7_owes_11 : decode cX7_owes 11 = .ok (.invokestatic 221, 3) := by decide +kernel
theorem dX7_owes_14 : decode cX7_owes 14 = .ok (.ifCond .ne 7, 3) := by decide +kernel
theorem dX7_owes_17 : decode cX7_owes 17 = .ok (.iconst 0, 1) := by decide +kernel
theorem dX7_owes_18 : decode cX7_owes 18 = .ok (.goto 9, 3) := by decide +kernel
theorem dX7_owes_21 : decode cX7_owes 21 = .ok (.aload_n 3, 1) := by decide +kernel
theorem dX7_owes_22 : decode cX7_owes 22 = .ok (.getfield 214, 3) := by decide +kernel
theorem dX7_owes_25 : decode cX7_owes 25 = .ok (.iload_n 2, 1) := by decide +kernel
theorem dX7_owes_26 : decode cX7_owes 26 = .ok (.iaload, 1) := by decide +kernel
theorem dX7_owes_27 : decode cX7_owes 27 = .ok (.ireturn, 1) := by decide +kernel
set_option maxRecDepth 20000 in
theorem ggX7_price_X7_postAt : GoodIn wsX7_price wsX7_postAt := goodIn_r _ [6, 7, 15, 16, 17, 18, 19, 20, 21, 22, 23, 24, 25, 26, 27, 28] (by decide +kernel) (by decide +kernel)
set_option maxRecDepth 20000 in
theorem gX7_price_X7_postAt : GoodIn wsX7_price (wsV RX7 84 RX7 yX7_postAt wsX7_postAt) := goodIn_app (goodIn_of _ (by decide +kernel)) ggX7_price_X7_postAt
set_option maxRecDepth 20000 in
theorem ggX7_price_X7_isWare : GoodIn wsX7_price wsX7_isWare := goodIn_r _ [10] (by decide +kernel) (by decide +kernel)
set_option maxRecDepth 20000 in
theorem gX7_price_X7_isWare : GoodIn wsX7_price (va_wsS RX7 88 yX7_isWare wsX7_isWare) := goodIn_app (goodIn_of _ (by decide +kernel)) ggX7_price_X7_isWare
theorem dX7_price_0 : decode cX7_price 0 = .ok (.aload_n 0, 1) := by decide +kernel
theorem dX7_price_1 : decode cX7_price 1 = .ok (.iload_n 1, 1) := by decide +kernel
theorem dX7_price_2 : decode cX7_price 2 = .ok (.invokevirtual 84, 3) := by decide +kernel
theorem dX7_price_5 : decode cX7_price 5 = .ok (.astore_n 3, 1) := by decide +kernel
theorem dX7_price_6 : decode cX7_price 6 = .ok (.aload_n 3, 1) := by decide +kernel
theorem dX7_price_7 : decode cX7_price 7 = .ok (.ifnull 10, 3) := by decide +kernel
theorem dX7_price_10 : decode cX7_price 10 = .ok (.iload_n 2, 1) := by decide +kernel
theorem dX7_price_11 : decode cX7_price 11 = .ok (.invokestatic 88, 3) := by decide +kernel
theorem dX7_price_14 : decode cX7_price 14 = .ok (.ifCond .ne 7, 3) := by decide +kernel
theorem dX7_price_17 : decode cX7_price 17 = .ok (.iconst (-1), 1) := by decide +kernel
theorem dX7_price_18 : decode cX7_price 18 = .ok (.goto 9, 3) := by decide +kernel
theorem dX7_price_21 : decode cX7_price 21 = .ok (.aload_n 3, 1) := by decide +kernel
theorem dX7_price_22 : decode cX7_price 22 = .ok (.getfield 217, 3) := by decide +kernel
theorem dX7_price_25 : decode cX7_price 25 = .ok (.iload_n 2, 1) := by decide +kernel
theorem dX7_price_26 : decode cX7_price 26 = .ok (.iaload, 1) := by decide +kernel
theorem dX7_price_27 : decode cX7_price 27 = .ok (.ireturn, 1) := by decide +kernel
set_option maxRecDepth 20000 in
theorem ggX7_isTrade_X7_isHunter : GoodIn wsX7_isTrade wsX7_isHunter := goodIn_r _ [4] (by decide +kernel) (by decide +kernel)
set_option maxRecDepth 20000 in
theorem gX7_isTrade_X7_isHunter : GoodIn wsX7_isTrade (va_wsS RX7 221 yX7_isHunter wsX7_isHunter) := goodIn_app (goodIn_of _ (by decide +kernel)) ggX7_isTrade_X7_isHunter
set_option maxRecDepth 20000 in
theorem ggX7_isTrade_X7_isWare : GoodIn wsX7_isTrade wsX7_isWare := goodIn_r _ [7] (by decide +kernel) (by decide +kernel)
set_option maxRecDepth 20000 in
theorem gX7_isTrade_X7_isWare : GoodIn wsX7_isTrade (va_wsS RX7 88 yX7_isWare wsX7_isWare) := goodIn_app (goodIn_of _ (by decide +kernel)) ggX7_isTrade_X7_isWare
set_option maxRecDepth 20000 in
theorem ggX7_isTrade_X7_isWithin : GoodIn wsX7_isTrade wsX7_isWithin := goodIn_r _ [10] (by decide +kernel) (by decide +kernel)
set_option maxRecDepth 20000 in
theorem gX7_isTrade_X7_isWithin : GoodIn wsX7_isTrade (va_wsS RX7 66 yX7_isWithin wsX7_isWithin) := goodIn_app (goodIn_of _ (by decide +kernel)) ggX7_isTrade_X7_isWithin
theorem dX7_isTrade_0 : decode cX7_isTrade 0 = .ok (.iload_n 0, 1) := by decide +kernel
theorem dX7_isTrade_1 : decode cX7_isTrade 1 = .ok (.invokestatic 221, 3) := by decide +kernel
theorem dX7_isTrade_4 : decode cX7_isTrade 4 = .ok (.ifCond .eq 25, 3) := by decide +kernel
theorem dX7_isTrade_7 : decode cX7_isTrade 7 = .ok (.iload_n 1, 1) := by decide +kernel
theorem dX7_isTrade_8 : decode cX7_isTrade 8 = .ok (.invokestatic 88, 3) := by decide +kernel
theorem dX7_isTrade_11 : decode cX7_isTrade 11 = .ok (.ifCond .eq 18, 3) := by decide +kernel
theorem dX7_isTrade_14 : decode cX7_isTrade 14 = .ok (.iload_n 2, 1) := by decide +kernel
theorem dX7_isTrade_15 : decode cX7_isTrade 15 = .ok (.iconst 1, 1) := by decide +kernel
theorem dX7_isTrade_16 : decode cX7_isTrade 16 = .ok (.sipush 1000, 3) := by decide +kernel
theorem dX7_isTrade_19 : decode cX7_isTrade 19 = .ok (.invokestatic 66, 3) := by decide +kernel
theorem dX7_isTrade_22 : decode cX7_isTrade 22 = .ok (.ifCond .eq 7, 3) := by decide +kernel
theorem dX7_isTrade_25 : decode cX7_isTrade 25 = .ok (.iconst 1, 1) := by decide +kernel
theorem dX7_isTrade_26 : decode cX7_isTrade 26 = .ok (.goto 4, 3) := by decide +kernel
theorem dX7_isTrade_29 : decode cX7_isTrade 29 = .ok (.iconst 0, 1) := by decide +kernel
theorem dX7_isTrade_30 : decode cX7_isTrade 30 = .ok (.ireturn, 1) := by decide +kernel
set_option maxRecDepth 20000 in
theorem ggX7_order_X7_canWrite : GoodIn wsX7_order wsX7_canWrite := goodIn_r _ [8, 9, 10, 11, 12, 7, 13, 14, 15, 16, 17, 18, 52, 53, 54, 55, 56, 57, 58, 59, 60, 61, 62, 63, 64, 65] (by decide +kernel) (by decide +kernel)
set_option maxRecDepth 20000 in
theorem gX7_order_X7_canWrite : GoodIn wsX7_order (wsV RX7 224 RX7 yX7_canWrite wsX7_canWrite) := goodIn_app (goodIn_of _ (by decide +kernel)) ggX7_order_X7_canWrite
set_option maxRecDepth 20000 in
theorem ggX7_order_X7_isWare : GoodIn wsX7_order wsX7_isWare := goodIn_r _ [21] (by decide +kernel) (by decide +kernel)
set_option maxRecDepth 20000 in
theorem gX7_order_X7_isWare : GoodIn wsX7_order (va_wsS RX7 88 yX7_isWare wsX7_isWare) := goodIn_app (goodIn_of _ (by decide +kernel)) ggX7_order_X7_isWare
set_option maxRecDepth 20000 in
theorem ggX7_order_X7_isWithin : GoodIn wsX7_order wsX7_isWithin := goodIn_r _ [24] (by decide +kernel) (by decide +kernel)
set_option maxRecDepth 20000 in
theorem gX7_order_X7_isWithin : GoodIn wsX7_order (va_wsS RX7 66 yX7_isWithin wsX7_isWithin) := goodIn_app (goodIn_of _ (by decide +kernel)) ggX7_order_X7_isWithin
set_option maxRecDepth 20000 in
theorem ggX7_order_X3_init : GoodIn wsX7_order wsX3_init := goodIn_r _ [27, 28, 29, 30, 31, 32, 33, 34, 35, 36, 37, 38, 39, 40, 46, 47, 48, 49, 50, 51, 66, 67, 68, 69, 70, 71, 72, 73, 74, 75, 76, 77] (by decide +kernel) (by decide +kernel)
set_option maxRecDepth 20000 in
theorem gX7_order_X3_init : GoodIn wsX7_order (wsX3_init) := ggX7_order_X3_init
set_option maxRecDepth 20000 in
theorem ggX7_order_X7_putInBag : GoodIn wsX7_order wsX7_putInBag := goodIn_r _ [44, 9, 45, 52, 53, 54, 55, 56, 57, 58, 59, 60, 61, 62, 63, 64, 65] (by decide +kernel) (by decide +kernel)
set_option maxRecDepth 20000 in
theorem gX7_order_X7_putInBag : GoodIn wsX7_order (wsV RX7 232 RX7 yX7_putInBag wsX7_putInBag) := goodIn_app (goodIn_of _ (by decide +kernel)) ggX7_order_X7_putInBag
theorem dX7_order_0 : decode cX7_order 0 = .ok (.aload_n 0, 1) := by decide +kernel
theorem dX7_order_1 : decode cX7_order 1 = .ok (.iload_n 1, 1) := by decide +kernel
theorem dX7_order_2 : decode cX7_order 2 = .ok (.iload_n 2, 1) := by decide +kernel
theorem dX7_order_3 : decode cX7_order 3 = .ok (.invokevirtual 224, 3) := by decide +kernel
theorem dX7_order_6 : decode cX7_order 6 = .ok (.ifCond .eq 21, 3) := by decide +kernel
theorem dX7_order_9 : decode cX7_order 9 = .ok (.iload_n 3, 1) := by decide +kernel
theorem dX7_order_10 : decode cX7_order 10 = .ok (.invokestatic 88, 3) := by decide +kernel
theorem dX7_order_13 : decode cX7_order 13 = .ok (.ifCond .eq 14, 3) := by decide +kernel
theorem dX7_order_16 : decode cX7_order 16 = .ok (.iload 4, 2) := by decide +kernel
theorem dX7_order_18 : decode cX7_order 18 = .ok (.iconst 1, 1) := by decide +kernel
theorem dX7_order_19 : decode cX7_order 19 = .ok (.bipush 100, 2) := by decide +kernel
theorem dX7_order_21 : decode cX7_order 21 = .ok (.invokestatic 66, 3) := by decide +kernel
theorem dX7_order_24 : decode cX7_order 24 = .ok (.ifCond .ne 5, 3) := by decide +kernel
theorem dX7_order_27 : decode cX7_order 27 = .ok (.iconst (-1), 1) := by decide +kernel
theorem dX7_order_28 : decode cX7_order 28 = .ok (.ireturn, 1) := by decide +kernel
theorem dX7_order_29 : decode cX7_order 29 = .ok (.aload_n 0, 1) := by decide +kernel
theorem dX7_order_30 : decode cX7_order 30 = .ok (.new 227, 3) := by decide +kernel
theorem dX7_order_33 : decode cX7_order 33 = .ok (.dup, 1) := by decide +kernel
theorem dX7_order_34 : decode cX7_order 34 = .ok (.iload_n 1, 1) := by decide +kernel
theorem dX7_order_35 : decode cX7_order 35 = .ok (.iload_n 2, 1) := by decide +kernel
theorem dX7_order_36 : decode cX7_order 36 = .ok (.iload_n 3, 1) := by decide +kernel
theorem dX7_order_37 : decode cX7_order 37 = .ok (.iload 4, 2) := by decide +kernel
theorem dX7_order_39 : decode cX7_order 39 = .ok (.invokespecial 229, 3) := by decide +kernel
theorem dX7_order_42 : decode cX7_order 42 = .ok (.invokevirtual 232, 3) := by decide +kernel
theorem dX7_order_45 : decode cX7_order 45 = .ok (.ireturn, 1) := by decide +kernel
set_option maxRecDepth 20000 in
theorem ggX7_debt_X7_postAt : GoodIn wsX7_debt wsX7_postAt := goodIn_r _ [9, 10, 54, 55, 56, 57, 58, 59, 60, 61, 62, 63, 64, 65, 66, 67] (by decide +kernel) (by decide +kernel)
set_option maxRecDepth 20000 in
theorem gX7_debt_X7_postAt : GoodIn wsX7_debt (wsV RX7 84 RX7 yX7_postAt wsX7_postAt) := goodIn_app (goodIn_of _ (by decide +kernel)) ggX7_debt_X7_postAt
set_option maxRecDepth 20000 in
theorem ggX7_debt_X7_canWrite : GoodIn wsX7_debt wsX7_canWrite := goodIn_r _ [14, 15, 16, 17, 18, 8, 19, 5, 6, 7, 9, 10, 54, 55, 56, 57, 58, 59, 60, 61, 62, 63, 64, 65, 66, 67] (by decide +kernel) (by decide +kernel)
set_option maxRecDepth 20000 in
theorem gX7_debt_X7_canWrite : GoodIn wsX7_debt (wsV RX7 224 RX7 yX7_canWrite wsX7_canWrite) := goodIn_app (goodIn_of _ (by decide +kernel)) ggX7_debt_X7_canWrite
set_option maxRecDepth 20000 in
theorem ggX7_debt_X7_isHunter : GoodIn wsX7_debt wsX7_isHunter := goodIn_r _ [22] (by decide +kernel) (by decide +kernel)
set_option maxRecDepth 20000 in
theorem gX7_debt_X7_isHunter : GoodIn wsX7_debt (va_wsS RX7 221 yX7_isHunter wsX7_isHunter) := goodIn_app (goodIn_of _ (by decide +kernel)) ggX7_debt_X7_isHunter
set_option maxRecDepth 20000 in
theorem ggX7_debt_X1_init : GoodIn wsX7_debt wsX1_init := goodIn_r _ [25, 26, 27, 28, 29, 30, 31, 32, 33, 34, 35, 36, 37, 38, 48, 49, 50, 51, 52, 53, 68, 69, 70, 71, 72, 73, 74, 75, 76, 77, 78, 79] (by decide +kernel) (by decide +kernel)
set_option maxRecDepth 20000 in
theorem gX7_debt_X1_init : GoodIn wsX7_debt (wsX1_init) := ggX7_debt_X1_init
set_option maxRecDepth 20000 in
theorem ggX7_debt_X7_putInBag : GoodIn wsX7_debt wsX7_putInBag := goodIn_r _ [42, 15, 43, 54, 55, 56, 57, 58, 59, 60, 61, 62, 63, 64, 65, 66, 67] (by decide +kernel) (by decide +kernel)
set_option maxRecDepth 20000 in
theorem gX7_debt_X7_putInBag : GoodIn wsX7_debt (wsV RX7 232 RX7 yX7_putInBag wsX7_putInBag) := goodIn_app (goodIn_of _ (by decide +kernel)) ggX7_debt_X7_putInBag
theorem dX7_debt_0 : decode cX7_debt 0 = .ok (.aload_n 0, 1) := by decide +kernel
theorem dX7_debt_1 : decode cX7_debt 1 = .ok (.iload_n 1, 1) := by decide +kernel
theorem dX7_debt_2 : decode cX7_debt 2 = .ok (.invokevirtual 84, 3) := by decide +kernel
theorem dX7_debt_5 : decode cX7_debt 5 = .ok (.astore 4, 2) := by decide +kernel
theorem dX7_debt_7 : decode cX7_debt 7 = .ok (.aload 4, 2) := by decide +kernel
theorem dX7_debt_9 : decode cX7_debt 9 = .ok (.ifnull 29, 3) := by decide +kernel
theorem dX7_debt_12 : decode cX7_debt 12 = .ok (.aload_n 0, 1) := by decide +kernel
theorem dX7_debt_13 : decode cX7_debt 13 = .ok (.iload_n 1, 1) := by decide +kernel
theorem dX7_debt_14 : decode cX7_debt 14 = .ok (.iload_n 2, 1) := by decide +kernel
theorem dX7_debt_15 : decode cX7_debt 15 = .ok (.invokevirtual 224, 3) := by decide +kernel
theorem dX7_debt_18 : decode cX7_debt 18 = .ok (.ifCond .eq 20, 3) := by decide +kernel
theorem dX7_debt_21 : decode cX7_debt 21 = .ok (.iload_n 3, 1) := by decide +kernel
theorem dX7_debt_22 : decode cX7_debt 22 = .ok (.invokestatic 221, 3) := by decide +kernel
theorem dX7_debt_25 : decode cX7_debt 25 = .ok (.ifCond .eq 13, 3) := by decide +kernel
theorem dX7_debt_28 : decode cX7_debt 28 = .ok (.aload 4, 2) := by decide +kernel
theorem dX7_debt_30 : decode cX7_debt 30 = .ok (.getfield 214, 3) := by decide +kernel
theorem dX7_debt_33 : decode cX7_debt 33 = .ok (.iload_n 3, 1) := by decide +kernel
theorem dX7_debt_34 : decode cX7_debt 34 = .ok (.iaload, 1) := by decide +kernel
theorem dX7_debt_35 : decode cX7_debt 35 = .ok (.ifCond .ne 5, 3) := by decide +kernel
theorem dX7_debt_38 : decode cX7_debt 38 = .ok (.iconst (-1), 1) := by decide +kernel
theorem dX7_debt_39 : decode cX7_debt 39 = .ok (.ireturn, 1) := by decide +kernel
theorem dX7_debt_40 : decode cX7_debt 40 = .ok (.aload 4, 2) := by decide +kernel
theorem dX7_debt_42 : decode cX7_debt 42 = .ok (.getfield 214, 3) := by decide +kernel
theorem dX7_debt_45 : decode cX7_debt 45 = .ok (.iload_n 3, 1) := by decide +kernel
theorem dX7_debt_46 : decode cX7_debt 46 = .ok (.iaload, 1) := by decide +kernel
theorem dX7_debt_47 : decode cX7_debt 47 = .ok (.istore 5, 2) := by decide +kernel
theorem dX7_debt_49 : decode cX7_debt 49 = .ok (.aload 4, 2) := by decide +kernel
theorem dX7_debt_51 : decode cX7_debt 51 = .ok (.getfield 214, 3) := by decide +kernel
theorem dX7_debt_54 : decode cX7_debt 54 = .ok (.iload_n 3, 1) := by decide +kernel
theorem dX7_debt_55 : decode cX7_debt 55 = .ok (.iconst 0, 1) := by decide +kernel
theorem dX7_debt_56 : decode cX7_debt 56 = .ok (.iastore, 1) := by decide +kernel
theorem dX7_debt_57 : decode cX7_debt 57 = .ok (.aload_n 0, 1) := by decide +kernel
theorem dX7_debt_58 : decode cX7_debt 58 = .ok (.new 188, 3) := by decide +kernel
theorem dX7_debt_61 : decode cX7_debt 61 = .ok (.dup, 1) := by decide +kernel
theorem dX7_debt_62 : decode cX7_debt 62 = .ok (.iload_n 1, 1) := by decide +kernel
theorem dX7_debt_63 : decode cX7_debt 63 = .ok (.iload_n 2, 1) := by decide +kernel
theorem dX7_debt_64 : decode cX7_debt 64 = .ok (.iload_n 3, 1) := by decide +kernel
theorem dX7_debt_65 : decode cX7_debt 65 = .ok (.iload 5, 2) := by decide +kernel
theorem dX7_debt_67 : decode cX7_debt 67 = .ok (.invokespecial 236, 3) := by decide +kernel
theorem dX7_debt_70 : decode cX7_debt 70 = .ok (.invokevirtual 232, 3) := by decide +kernel
theorem dX7_debt_73 : decode cX7_debt 73 = .ok (.pop, 1) := by decide +kernel
theorem dX7_debt_74 : decode cX7_debt 74 = .ok (.iload 5, 2) := by decide +kernel
theorem dX7_debt_76 : decode cX7_debt 76 = .ok (.ireturn, 1) := by decide +kernel
set_option maxRecDepth 20000 in
theorem ggX7_report_X7_postAt : GoodIn wsX7_report wsX7_postAt := goodIn_r _ [16, 17, 54, 55, 56, 57, 58, 59, 60, 61, 62, 63, 64, 65, 66, 67] (by decide +kernel) (by decide +kernel)
set_option maxRecDepth 20000 in
theorem gX7_report_X7_postAt : GoodIn wsX7_report (wsV RX7 84 RX7 yX7_postAt wsX7_postAt) := goodIn_app (goodIn_of _ (by decide +kernel)) ggX7_report_X7_postAt
set_option maxRecDepth 20000 in
theorem ggX7_report_X7_canWrite : GoodIn wsX7_report wsX7_canWrite := goodIn_r _ [21, 22, 23, 24, 25, 15, 26, 12, 13, 14, 16, 17, 54, 55, 56, 57, 58, 59, 60, 61, 62, 63, 64, 65, 66, 67] (by decide +kernel) (by decide +kernel)
set_option maxRecDepth 20000 in
theorem gX7_report_X7_canWrite : GoodIn wsX7_report (wsV RX7 224 RX7 yX7_canWrite wsX7_canWrite) := goodIn_app (goodIn_of _ (by decide +kernel)) ggX7_report_X7_canWrite
set_option maxRecDepth 20000 in
theorem ggX7_report_X5_init : GoodIn wsX7_report wsX5_init := goodIn_r _ [29, 30, 31, 32, 33, 34, 35, 36, 37, 38, 39, 40, 41, 42, 48, 49, 50, 51, 52, 53, 72, 73, 74, 75, 76, 77, 78, 79, 80, 81, 82, 83] (by decide +kernel) (by decide +kernel)
set_option maxRecDepth 20000 in
theorem gX7_report_X5_init : GoodIn wsX7_report (wsX5_init) := ggX7_report_X5_init
set_option maxRecDepth 20000 in
theorem ggX7_report_X7_putInBag : GoodIn wsX7_report wsX7_putInBag := goodIn_r _ [46, 22, 47, 54, 55, 56, 57, 58, 59, 60, 61, 62, 63, 64, 65, 66, 67] (by decide +kernel) (by decide +kernel)
set_option maxRecDepth 20000 in
theorem gX7_report_X7_putInBag : GoodIn wsX7_report (wsV RX7 232 RX7 yX7_putInBag wsX7_putInBag) := goodIn_app (goodIn_of _ (by decide +kernel)) ggX7_report_X7_putInBag
theorem dX7_report_0 : decode cX7_report 0 = .ok (.aload_n 0, 1) := by decide +kernel
theorem dX7_report_1 : decode cX7_report 1 = .ok (.iload_n 1, 1) := by decide +kernel
theorem dX7_report_2 : decode cX7_report 2 = .ok (.invokevirtual 84, 3) := by decide +kernel
theorem dX7_report_5 : decode cX7_report 5 = .ok (.astore_n 3, 1) := by decide +kernel
theorem dX7_report_6 : decode cX7_report 6 = .ok (.aload_n 3, 1) := by decide +kernel
theorem dX7_report_7 : decode cX7_report 7 = .ok (.ifnull 12, 3) := by decide +kernel
theorem dX7_report_10 : decode cX7_report 10 = .ok (.aload_n 0, 1) := by decide +kernel
theorem dX7_report_11 : decode cX7_report 11 = .ok (.iload_n 1, 1) := by decide +kernel
theorem dX7_report_12 : decode cX7_report 12 = .ok (.iload_n 2, 1) := by decide +kernel
theorem dX7_report_13 : decode cX7_report 13 = .ok (.invokevirtual 224, 3) := by decide +kernel
theorem dX7_report_16 : decode cX7_report 16 = .ok (.ifCond .ne 5, 3) := by decide +kernel
theorem dX7_report_19 : decode cX7_report 19 = .ok (.iconst (-1), 1) := by decide +kernel
theorem dX7_report_20 : decode cX7_report 20 = .ok (.ireturn, 1) := by decide +kernel
theorem dX7_report_21 : decode cX7_report 21 = .ok (.aload_n 0, 1) := by decide +kernel
theorem dX7_report_22 : decode cX7_report 22 = .ok (.new 237, 3) := by decide +kernel
theorem dX7_report_25 : decode cX7_report 25 = .ok (.dup, 1) := by decide +kernel
theorem dX7_report_26 : decode cX7_report 26 = .ok (.iload_n 1, 1) := by decide +kernel
theorem dX7_report_27 : decode cX7_report 27 = .ok (.iload_n 2, 1) := by decide +kernel
theorem dX7_report_28 : decode cX7_report 28 = .ok (.aload_n 0, 1) := by decide +kernel
theorem dX7_report_29 : decode cX7_report 29 = .ok (.getfield 103, 3) := by decide +kernel
theorem dX7_report_32 : decode cX7_report 32 = .ok (.aload_n 3, 1) := by decide +kernel
theorem dX7_report_33 : decode cX7_report 33 = .ok (.getfield 92, 3) := by decide +kernel
theorem dX7_report_36 : decode cX7_report 36 = .ok (.invokevirtual 123, 3) := by decide +kernel
theorem dX7_report_39 : decode cX7_report 39 = .ok (.checkcast 124, 3) := by decide +kernel
theorem dX7_report_42 : decode cX7_report 42 = .ok (.invokespecial 239, 3) := by decide +kernel
theorem dX7_report_45 : decode cX7_report 45 = .ok (.invokevirtual 232, 3) := by decide +kernel
theorem dX7_report_48 : decode cX7_report 48 = .ok (.ireturn, 1) := by decide +kernel
set_option maxRecDepth 20000 in
theorem ggX7_known_X7_postAt : GoodIn wsX7_known wsX7_postAt := goodIn_r _ [7, 8, 28, 29, 30, 31, 32, 33, 34, 35, 36, 37, 38, 39, 40, 41] (by decide +kernel) (by decide +kernel)
set_option maxRecDepth 20000 in
theorem gX7_known_X7_postAt : GoodIn wsX7_known (wsV RX7 84 RX7 yX7_postAt wsX7_postAt) := goodIn_app (goodIn_of _ (by decide +kernel)) ggX7_known_X7_postAt
set_option maxRecDepth 20000 in
theorem ggX7_known_X7_isWare : GoodIn wsX7_known wsX7_isWare := goodIn_r _ [11] (by decide +kernel) (by decide +kernel)
set_option maxRecDepth 20000 in
theorem gX7_known_X7_isWare : GoodIn wsX7_known (va_wsS RX7 88 yX7_isWare wsX7_isWare) := goodIn_app (goodIn_of _ (by decide +kernel)) ggX7_known_X7_isWare
set_option maxRecDepth 20000 in
theorem ggX7_known_X4_reportOf : GoodIn wsX7_known wsX4_reportOf := goodIn_r _ [16, 17, 18, 19, 20, 21] (by decide +kernel) (by decide +kernel)
set_option maxRecDepth 20000 in
theorem gX7_known_X4_reportOf : GoodIn wsX7_known (wsV RX7 242 RX4 yX4_reportOf wsX4_reportOf) := goodIn_app (goodIn_of _ (by decide +kernel)) ggX7_known_X4_reportOf
theorem dX7_known_0 : decode cX7_known 0 = .ok (.aload_n 0, 1) := by decide +kernel
theorem dX7_known_1 : decode cX7_known 1 = .ok (.iload_n 1, 1) := by decide +kernel
theorem dX7_known_2 : decode cX7_known 2 = .ok (.invokevirtual 84, 3) := by decide +kernel
theorem dX7_known_5 : decode cX7_known 5 = .ok (.astore 4, 2) := by decide +kernel
theorem dX7_known_7 : decode cX7_known 7 = .ok (.aload 4, 2) := by decide +kernel
theorem dX7_known_9 : decode cX7_known 9 = .ok (.ifnull 10, 3) := by decide +kernel
theorem dX7_known_12 : decode cX7_known 12 = .ok (.iload_n 3, 1) := by decide +kernel
theorem dX7_known_13 : decode cX7_known 13 = .ok (.invokestatic 88, 3) := by decide +kernel
theorem dX7_known_16 : decode cX7_known 16 = .ok (.ifCond .ne 5, 3) := by decide +kernel
theorem dX7_known_19 : decode cX7_known 19 = .ok (.iconst (-1), 1) := by decide +kernel
theorem dX7_known_20 : decode cX7_known 20 = .ok (.ireturn, 1) := by decide +kernel
theorem dX7_known_21 : decode cX7_known 21 = .ok (.iload_n 1, 1) := by decide +kernel
theorem dX7_known_22 : decode cX7_known 22 = .ok (.iload_n 2, 1) := by decide +kernel
theorem dX7_known_23 : decode cX7_known 23 = .ok (.if_icmp .ne 11, 3) := by decide +kernel
theorem dX7_known_26 : decode cX7_known 26 = .ok (.aload 4, 2) := by decide +kernel
theorem dX7_known_28 : decode cX7_known 28 = .ok (.getfield 92, 3) := by decide +kernel
theorem dX7_known_31 : decode cX7_known 31 = .ok (.iload_n 3, 1) := by decide +kernel
theorem dX7_known_32 : decode cX7_known 32 = .ok (.iaload, 1) := by decide +kernel
theorem dX7_known_33 : decode cX7_known 33 = .ok (.ireturn, 1) := by decide +kernel
theorem dX7_known_34 : decode cX7_known 34 = .ok (.aload 4, 2) := by decide +kernel
theorem dX7_known_36 : decode cX7_known 36 = .ok (.iload_n 2, 1) := by decide +kernel
theorem dX7_known_37 : decode cX7_known 37 = .ok (.invokevirtual 242, 3) := by decide +kernel
theorem dX7_known_40 : decode cX7_known 40 = .ok (.astore 5, 2) := by decide +kernel
theorem dX7_known_42 : decode cX7_known 42 = .ok (.aload 5, 2) := by decide +kernel
theorem dX7_known_44 : decode cX7_known 44 = .ok (.ifnonnull 7, 3) := by decide +kernel
theorem dX7_known_47 : decode cX7_known 47 = .ok (.iconst (-1), 1) := by decide +kernel
theorem dX7_known_48 : decode cX7_known 48 = .ok (.goto 10, 3) := by decide +kernel
theorem dX7_known_51 : decode cX7_known 51 = .ok (.aload 5, 2) := by decide +kernel
theorem dX7_known_53 : decode cX7_known 53 = .ok (.getfield 246, 3) := by decide +kernel
theorem dX7_known_56 : decode cX7_known 56 = .ok (.iload_n 3, 1) := by decide +kernel
theorem dX7_known_57 : decode cX7_known 57 = .ok (.iaload, 1) := by decide +kernel
theorem dX7_known_58 : decode cX7_known 58 = .ok (.ireturn, 1) := by decide +kernel
set_option maxRecDepth 20000 in
theorem ggX7_knownDay_X7_postAt : GoodIn wsX7_knownDay wsX7_postAt := goodIn_r _ [7, 8, 15, 16, 17, 18, 19, 20, 21, 22, 23, 24, 25, 26, 27, 28] (by decide +kernel) (by decide +kernel)
set_option maxRecDepth 20000 in
theorem gX7_knownDay_X7_postAt : GoodIn wsX7_knownDay (wsV RX7 84 RX7 yX7_postAt wsX7_postAt) := goodIn_app (goodIn_of _ (by decide +kernel)) ggX7_knownDay_X7_postAt
set_option maxRecDepth 20000 in
theorem ggX7_knownDay_X4_reportOf : GoodIn wsX7_knownDay wsX4_reportOf := goodIn_r _ [13, 14, 35, 36, 37, 38] (by decide +kernel) (by decide +kernel)
set_option maxRecDepth 20000 in
theorem gX7_knownDay_X4_reportOf : GoodIn wsX7_knownDay (wsV RX7 242 RX4 yX4_reportOf wsX4_reportOf) := goodIn_app (goodIn_of _ (by decide +kernel)) ggX7_knownDay_X4_reportOf
theorem dX7_knownDay_0 : decode cX7_knownDay 0 = .ok (.aload_n 0, 1) := by decide +kernel
theorem dX7_knownDay_1 : decode cX7_knownDay 1 = .ok (.iload_n 1, 1) := by decide +kernel
theorem dX7_knownDay_2 : decode cX7_knownDay 2 = .ok (.invokevirtual 84, 3) := by decide +kernel
theorem dX7_knownDay_5 : decode cX7_knownDay 5 = .ok (.astore_n 3, 1) := by decide +kernel
theorem dX7_knownDay_6 : decode cX7_knownDay 6 = .ok (.aload_n 3, 1) := by decide +kernel
theorem dX7_knownDay_7 : decode cX7_knownDay 7 = .ok (.ifnonnull 5, 3) := by decide +kernel
theorem dX7_knownDay_10 : decode cX7_knownDay 10 = .ok (.iconst (-1), 1) := by decide +kernel
theorem dX7_knownDay_11 : decode cX7_knownDay 11 = .ok (.ireturn, 1) := by decide +kernel
theorem dX7_knownDay_12 : decode cX7_knownDay 12 = .ok (.iload_n 1, 1) := by decide +kernel
theorem dX7_knownDay_13 : decode cX7_knownDay 13 = .ok (.iload_n 2, 1) := by decide +kernel
theorem dX7_knownDay_14 : decode cX7_knownDay 14 = .ok (.if_icmp .ne 8, 3) := by decide +kernel
theorem dX7_knownDay_17 : decode cX7_knownDay 17 = .ok (.aload_n 0, 1) := by decide +kernel
theorem dX7_knownDay_18 : decode cX7_knownDay 18 = .ok (.getfield 103, 3) := by decide +kernel
theorem dX7_knownDay_21 : decode cX7_knownDay 21 = .ok (.ireturn, 1) := by decide +kernel
theorem dX7_knownDay_22 : decode cX7_knownDay 22 = .ok (.aload_n 3, 1) := by decide +kernel
theorem dX7_knownDay_23 : decode cX7_knownDay 23 = .ok (.iload_n 2, 1) := by decide +kernel
theorem dX7_knownDay_24 : decode cX7_knownDay 24 = .ok (.invokevirtual 242, 3) := by decide +kernel
theorem dX7_knownDay_27 : decode cX7_knownDay 27 = .ok (.astore 4, 2) := by decide +kernel
theorem dX7_knownDay_29 : decode cX7_knownDay 29 = .ok (.aload 4, 2) := by decide +kernel
theorem dX7_knownDay_31 : decode cX7_knownDay 31 = .ok (.ifnonnull 7, 3) := by decide +kernel
theorem dX7_knownDay_34 : decode cX7_knownDay 34 = .ok (.iconst (-1), 1) := by decide +kernel
theorem dX7_knownDay_35 : decode cX7_knownDay 35 = .ok (.goto 8, 3) := by decide +kernel
theorem dX7_knownDay_38 : decode cX7_knownDay 38 = .ok (.aload 4, 2) := by decide +kernel
theorem dX7_knownDay_40 : decode cX7_knownDay 40 = .ok (.getfield 247, 3) := by decide +kernel
theorem dX7_knownDay_43 : decode cX7_knownDay 43 = .ok (.ireturn, 1) := by decide +kernel
set_option maxRecDepth 20000 in
theorem ggX7_canWrite_X7_areTwoPosts : GoodIn wsX7_canWrite wsX7_areTwoPosts := goodIn_r _ [6, 7, 8, 9, 5, 10, 11, 12, 13, 14, 15, 16, 17, 18, 19, 20, 21, 22, 23, 24, 25] (by decide +kernel) (by decide +kernel)
set_option maxRecDepth 20000 in
theorem gX7_canWrite_X7_areTwoPosts : GoodIn wsX7_canWrite (wsV RX7 59 RX7 yX7_areTwoPosts wsX7_areTwoPosts) := goodIn_app (goodIn_of _ (by decide +kernel)) ggX7_canWrite_X7_areTwoPosts
theorem dX7_canWrite_0 : decode cX7_canWrite 0 = .ok (.aload_n 0, 1) := by decide +kernel
theorem dX7_canWrite_1 : decode cX7_canWrite 1 = .ok (.iload_n 1, 1) := by decide +kernel
theorem dX7_canWrite_2 : decode cX7_canWrite 2 = .ok (.iload_n 2, 1) := by decide +kernel
theorem dX7_canWrite_3 : decode cX7_canWrite 3 = .ok (.invokevirtual 59, 3) := by decide +kernel
theorem dX7_canWrite_6 : decode cX7_canWrite 6 = .ok (.ifCond .eq 17, 3) := by decide +kernel
theorem dX7_canWrite_9 : decode cX7_canWrite 9 = .ok (.aload_n 0, 1) := by decide +kernel
theorem dX7_canWrite_10 : decode cX7_canWrite 10 = .ok (.getfield 165, 3) := by decide +kernel
theorem dX7_canWrite_13 : decode cX7_canWrite 13 = .ok (.sipush 300, 3) := by decide +kernel
theorem dX7_canWrite_16 : decode cX7_canWrite 16 = .ok (.if_icmp .ge 7, 3) := by decide +kernel
theorem dX7_canWrite_19 : decode cX7_canWrite 19 = .ok (.iconst 1, 1) := by decide +kernel
theorem dX7_canWrite_20 : decode cX7_canWrite 20 = .ok (.goto 4, 3) := by decide +kernel
theorem dX7_canWrite_23 : decode cX7_canWrite 23 = .ok (.iconst 0, 1) := by decide +kernel
theorem dX7_canWrite_24 : decode cX7_canWrite 24 = .ok (.ireturn, 1) := by decide +kernel
theorem dX7_putInBag_0 : decode cX7_putInBag 0 = .ok (.aload_n 0, 1) := by decide +kernel
theorem dX7_putInBag_1 : decode cX7_putInBag 1 = .ok (.getfield 165, 3) := by decide +kernel
theorem dX7_putInBag_4 : decode cX7_putInBag 4 = .ok (.sipush 300, 3) := by decide +kernel
theorem dX7_putInBag_7 : decode cX7_putInBag 7 = .ok (.if_icmp .lt 5, 3) := by decide +kernel
theorem dX7_putInBag_10 : decode cX7_putInBag 10 = .ok (.iconst (-1), 1) := by decide +kernel
theorem dX7_putInBag_11 : decode cX7_putInBag 11 = .ok (.ireturn, 1) := by decide +kernel
theorem dX7_putInBag_12 : decode cX7_putInBag 12 = .ok (.aload_n 0, 1) := by decide +kernel
theorem dX7_putInBag_13 : decode cX7_putInBag 13 = .ok (.getfield 29, 3) := by decide +kernel
theorem dX7_putInBag_16 : decode cX7_putInBag 16 = .ok (.aload_n 0, 1) := by decide +kernel
theorem dX7_putInBag_17 : decode cX7_putInBag 17 = .ok (.getfield 165, 3) := by decide +kernel
theorem dX7_putInBag_20 : decode cX7_putInBag 20 = .ok (.aload_n 1, 1) := by decide +kernel
theorem dX7_putInBag_21 : decode cX7_putInBag 21 = .ok (.aastore, 1) := by decide +kernel
theorem dX7_putInBag_22 : decode cX7_putInBag 22 = .ok (.aload_n 0, 1) := by decide +kernel
theorem dX7_putInBag_23 : decode cX7_putInBag 23 = .ok (.dup, 1) := by decide +kernel
theorem dX7_putInBag_24 : decode cX7_putInBag 24 = .ok (.getfield 165, 3) := by decide +kernel
theorem dX7_putInBag_27 : decode cX7_putInBag 27 = .ok (.iconst 1, 1) := by decide +kernel
theorem dX7_putInBag_28 : decode cX7_putInBag 28 = .ok (.iadd, 1) := by decide +kernel
theorem dX7_putInBag_29 : decode cX7_putInBag 29 = .ok (.putfield 165, 3) := by decide +kernel
theorem dX7_putInBag_32 : decode cX7_putInBag 32 = .ok (.aload_n 0, 1) := by decide +kernel
theorem dX7_putInBag_33 : decode cX7_putInBag 33 = .ok (.getfield 165, 3) := by decide +kernel
theorem dX7_putInBag_36 : decode cX7_putInBag 36 = .ok (.iconst 1, 1) := by decide +kernel
theorem dX7_putInBag_37 : decode cX7_putInBag 37 = .ok (.isub, 1) := by decide +kernel
theorem dX7_putInBag_38 : decode cX7_putInBag 38 = .ok (.ireturn, 1) := by decide +kernel
set_option maxRecDepth 20000 in
theorem ggX7_want_X7_isWare : GoodIn wsX7_want wsX7_isWare := goodIn_r _ [5] (by decide +kernel) (by decide +kernel)
set_option maxRecDepth 20000 in
theorem gX7_want_X7_isWare : GoodIn wsX7_want (va_wsS RX7 88 yX7_isWare wsX7_isWare) := goodIn_app (goodIn_of _ (by decide +kernel)) ggX7_want_X7_isWare
set_option maxRecDepth 20000 in
theorem ggX7_want_X7_isWithin : GoodIn wsX7_want wsX7_isWithin := goodIn_r _ [8] (by decide +kernel) (by decide +kernel)
set_option maxRecDepth 20000 in
theorem gX7_want_X7_isWithin : GoodIn wsX7_want (va_wsS RX7 66 yX7_isWithin wsX7_isWithin) := goodIn_app (goodIn_of _ (by decide +kernel)) ggX7_want_X7_isWithin
theorem dX7_want_0 : decode cX7_want 0 = .ok (.iload_n 1, 1) := by decide +kernel
theorem dX7_want_1 : decode cX7_want 1 = .ok (.invokestatic 88, 3) := by decide +kernel
theorem dX7_want_4 : decode cX7_want 4 = .ok (.ifCond .eq 24, 3) := by decide +kernel
theorem dX7_want_7 : decode cX7_want 7 = .ok (.iload_n 2, 1) := by decide +kernel
theorem dX7_want_8 : decode cX7_want 8 = .ok (.iconst 0, 1) := by decide +kernel
theorem dX7_want_9 : decode cX7_want 9 = .ok (.bipush 20, 2) := by decide +kernel
theorem dX7_want_11 : decode cX7_want 11 = .ok (.invokestatic 66, 3) := by decide +kernel
theorem dX7_want_14 : decode cX7_want 14 = .ok (.ifCond .eq 14, 3) := by decide +kernel
theorem dX7_want_17 : decode cX7_want 17 = .ok (.iload_n 3, 1) := by decide +kernel
theorem dX7_want_18 : decode cX7_want 18 = .ok (.iconst 0, 1) := by decide +kernel
theorem dX7_want_19 : decode cX7_want 19 = .ok (.sipush 1000, 3) := by decide +kernel
theorem dX7_want_22 : decode cX7_want 22 = .ok (.invokestatic 66, 3) := by decide +kernel
theorem dX7_want_25 : decode cX7_want 25 = .ok (.ifCond .ne 5, 3) := by decide +kernel
theorem dX7_want_28 : decode cX7_want 28 = .ok (.iconst 0, 1) := by decide +kernel
theorem dX7_want_29 : decode cX7_want 29 = .ok (.ireturn, 1) := by decide +kernel
theorem dX7_want_30 : decode cX7_want 30 = .ok (.aload_n 0, 1) := by decide +kernel
theorem dX7_want_31 : decode cX7_want 31 = .ok (.getfield 38, 3) := by decide +kernel
theorem dX7_want_34 : decode cX7_want 34 = .ok (.iload_n 1, 1) := by decide +kernel
theorem dX7_want_35 : decode cX7_want 35 = .ok (.aaload, 1) := by decide +kernel
theorem dX7_want_36 : decode cX7_want 36 = .ok (.iload_n 2, 1) := by decide +kernel
theorem dX7_want_37 : decode cX7_want 37 = .ok (.iload_n 3, 1) := by decide +kernel
theorem dX7_want_38 : decode cX7_want 38 = .ok (.iastore, 1) := by decide +kernel
theorem dX7_want_39 : decode cX7_want 39 = .ok (.iconst 1, 1) := by decide +kernel
theorem dX7_want_40 : decode cX7_want 40 = .ok (.ireturn, 1) := by decide +kernel
set_option maxRecDepth 20000 in
theorem ggX7_indent_X7_cost : GoodIn wsX7_indent wsX7_cost := goodIn_r _ [5, 6, 7, 8, 9, 10, 11, 12, 13, 14, 4, 15, 16, 17, 18, 19, 20, 21, 22, 23, 24, 25, 26, 27, 28, 29, 30, 31, 32, 33, 34, 35, 36, 37, 38, 39, 40, 41, 42, 43, 44] (by decide +kernel) (by decide +kernel)
set_option maxRecDepth 20000 in
theorem gX7_indent_X7_cost : GoodIn wsX7_indent (wsV RX7 250 RX7 yX7_cost wsX7_cost) := goodIn_app (goodIn_of _ (by decide +kernel)) ggX7_indent_X7_cost
theorem dX7_indent_0 : decode cX7_indent 0 = .ok (.iconst (-1), 1) := by decide +kernel
theorem dX7_indent_1 : decode cX7_indent 1 = .ok (.istore 5, 2) := by decide +kernel
theorem dX7_indent_3 : decode cX7_indent 3 = .ok (.iconst (-1), 1) := by decide +kernel
theorem dX7_indent_4 : decode cX7_indent 4 = .ok (.istore 6, 2) := by decide +kernel
theorem dX7_indent_6 : decode cX7_indent 6 = .ok (.iconst 0, 1) := by decide +kernel
theorem dX7_indent_7 : decode cX7_indent 7 = .ok (.istore 7, 2) := by decide +kernel
theorem dX7_indent_9 : decode cX7_indent 9 = .ok (.iload 7, 2) := by decide +kernel
theorem dX7_indent_11 : decode cX7_indent 11 = .ok (.bipush 20, 2) := by decide +kernel
theorem dX7_indent_13 : decode cX7_indent 13 = .ok (.if_icmp .gt 49, 3) := by decide +kernel
theorem dX7_indent_16 : decode cX7_indent 16 = .ok (.aload_n 0, 1) := by decide +kernel
theorem dX7_indent_17 : decode cX7_indent 17 = .ok (.iload_n 1, 1) := by decide +kernel
theorem dX7_indent_18 : decode cX7_indent 18 = .ok (.iload_n 2, 1) := by decide +kernel
theorem dX7_indent_19 : decode cX7_indent 19 = .ok (.iload_n 3, 1) := by decide +kernel
theorem dX7_indent_20 : decode cX7_indent 20 = .ok (.iload 4, 2) := by decide +kernel
theorem dX7_indent_22 : decode cX7_indent 22 = .ok (.iload 7, 2) := by decide +kernel
theorem dX7_indent_24 : decode cX7_indent 24 = .ok (.invokevirtual 250, 3) := by decide +kernel
theorem dX7_indent_27 : decode cX7_indent 27 = .ok (.istore 8, 2) := by decide +kernel
theorem dX7_indent_29 : decode cX7_indent 29 = .ok (.iload 8, 2) := by decide +kernel
theorem dX7_indent_31 : decode cX7_indent 31 = .ok (.iconst (-1), 1) := by decide +kernel
theorem dX7_indent_32 : decode cX7_indent 32 = .ok (.if_icmp .eq 24, 3) := by decide +kernel
theorem dX7_indent_35 : decode cX7_indent 35 = .ok (.iload 5, 2) := by decide +kernel
theorem dX7_indent_37 : decode cX7_indent 37 = .ok (.iconst (-1), 1) := by decide +kernel
theorem dX7_indent_38 : decode cX7_indent 38 = .ok (.if_icmp .eq 10, 3) := by decide +kernel
theorem dX7_indent_41 : decode cX7_indent 41 = .ok (.iload 8, 2) := by decide +kernel
theorem dX7_indent_43 : decode cX7_indent 43 = .ok (.iload 6, 2) := by decide +kernel
theorem dX7_indent_45 : decode cX7_indent 45 = .ok (.if_icmp .ge 11, 3) := by decide +kernel
theorem dX7_indent_48 : decode cX7_indent 48 = .ok (.iload 7, 2) := by decide +kernel
theorem dX7_indent_50 : decode cX7_indent 50 = .ok (.istore 5, 2) := by decide +kernel
theorem dX7_indent_52 : decode cX7_indent 52 = .ok (.iload 8, 2) := by decide +kernel
theorem dX7_indent_54 : decode cX7_indent 54 = .ok (.istore 6, 2) := by decide +kernel
theorem dX7_indent_56 : decode cX7_indent 56 = .ok (.iinc 7 1, 3) := by decide +kernel
theorem dX7_indent_59 : decode cX7_indent 59 = .ok (.goto (-50), 3) := by decide +kernel
theorem dX7_indent_62 : decode cX7_indent 62 = .ok (.iload 5, 2) := by decide +kernel
theorem dX7_indent_64 : decode cX7_indent 64 = .ok (.ireturn, 1) := by decide +kernel
set_option maxRecDepth 20000 in
theorem ggX7_cost_X7_postAt : GoodIn wsX7_cost wsX7_postAt := goodIn_r _ [11, 12, 27, 28, 29, 30, 31, 32, 33, 34, 35, 36, 37, 38, 39, 40] (by decide +kernel) (by decide +kernel)
set_option maxRecDepth 20000 in
theorem gX7_cost_X7_postAt : GoodIn wsX7_cost (wsV RX7 84 RX7 yX7_postAt wsX7_postAt) := goodIn_app (goodIn_of _ (by decide +kernel)) ggX7_cost_X7_postAt
set_option maxRecDepth 20000 in
theorem ggX7_cost_X7_isWare : GoodIn wsX7_cost wsX7_isWare := goodIn_r _ [15] (by decide +kernel) (by decide +kernel)
set_option maxRecDepth 20000 in
theorem gX7_cost_X7_isWare : GoodIn wsX7_cost (va_wsS RX7 88 yX7_isWare wsX7_isWare) := goodIn_app (goodIn_of _ (by decide +kernel)) ggX7_cost_X7_isWare
set_option maxRecDepth 20000 in
theorem ggX7_cost_X7_areWantsRight : GoodIn wsX7_cost wsX7_areWantsRight := goodIn_r _ [19, 6, 27, 28, 29, 30, 31, 32, 33, 34, 35, 36, 37, 38, 39, 40] (by decide +kernel) (by decide +kernel)
set_option maxRecDepth 20000 in
theorem gX7_cost_X7_areWantsRight : GoodIn wsX7_cost (wsV RX7 254 RX7 yX7_areWantsRight wsX7_areWantsRight) := goodIn_app (goodIn_of _ (by decide +kernel)) ggX7_cost_X7_areWantsRight
set_option maxRecDepth 20000 in
theorem ggX7_cost_X7_isWithin : GoodIn wsX7_cost wsX7_isWithin := goodIn_r _ [22] (by decide +kernel) (by decide +kernel)
set_option maxRecDepth 20000 in
theorem gX7_cost_X7_isWithin : GoodIn wsX7_cost (va_wsS RX7 66 yX7_isWithin wsX7_isWithin) := goodIn_app (goodIn_of _ (by decide +kernel)) ggX7_cost_X7_isWithin
theorem dX7_cost_0 : decode cX7_cost 0 = .ok (.aload_n 0, 1) := by decide +kernel
theorem dX7_cost_1 : decode cX7_cost 1 = .ok (.iload_n 1, 1) := by decide +kernel
theorem dX7_cost_2 : decode cX7_cost 2 = .ok (.invokevirtual 84, 3) := by decide +kernel
theorem dX7_cost_5 : decode cX7_cost 5 = .ok (.astore 6, 2) := by decide +kernel
theorem dX7_cost_7 : decode cX7_cost 7 = .ok (.aload 6, 2) := by decide +kernel
theorem dX7_cost_9 : decode cX7_cost 9 = .ok (.ifnull 50, 3) := by decide +kernel
theorem dX7_cost_12 : decode cX7_cost 12 = .ok (.iload_n 2, 1) := by decide +kernel
theorem dX7_cost_13 : decode cX7_cost 13 = .ok (.invokestatic 88, 3) := by decide +kernel
theorem dX7_cost_16 : decode cX7_cost 16 = .ok (.ifCond .eq 43, 3) := by decide +kernel
theorem dX7_cost_19 : decode cX7_cost 19 = .ok (.aload_n 0, 1) := by decide +kernel
theorem dX7_cost_20 : decode cX7_cost 20 = .ok (.iload_n 2, 1) := by decide +kernel
theorem dX7_cost_21 : decode cX7_cost 21 = .ok (.invokevirtual 254, 3) := by decide +kernel
theorem dX7_cost_24 : decode cX7_cost 24 = .ok (.ifCond .eq 35, 3) := by decide +kernel
theorem dX7_cost_27 : decode cX7_cost 27 = .ok (.iload 5, 2) := by decide +kernel
theorem dX7_cost_29 : decode cX7_cost 29 = .ok (.iconst 0, 1) := by decide +kernel
theorem dX7_cost_30 : decode cX7_cost 30 = .ok (.bipush 20, 2) := by decide +kernel
theorem dX7_cost_32 : decode cX7_cost 32 = .ok (.invokestatic 66, 3) := by decide +kernel
theorem dX7_cost_35 : decode cX7_cost 35 = .ok (.ifCond .eq 24, 3) := by decide +kernel
theorem dX7_cost_38 : decode cX7_cost 38 = .ok (.iload_n 3, 1) := by decide +kernel
theorem dX7_cost_39 : decode cX7_cost 39 = .ok (.iconst 0, 1) := by decide +kernel
theorem dX7_cost_40 : decode cX7_cost 40 = .ok (.bipush 100, 2) := by decide +kernel
theorem dX7_cost_42 : decode cX7_cost 42 = .ok (.invokestatic 66, 3) := by decide +kernel
theorem dX7_cost_45 : decode cX7_cost 45 = .ok (.ifCond .eq 14, 3) := by decide +kernel
theorem dX7_cost_48 : decode cX7_cost 48 = .ok (.iload 4, 2) := by decide +kernel
theorem dX7_cost_50 : decode cX7_cost 50 = .ok (.iconst 0, 1) := by decide +kernel
theorem dX7_cost_51 : decode cX7_cost 51 = .ok (.bipush 100, 2) := by decide +kernel
theorem dX7_cost_53 : decode cX7_cost 53 = .ok (.invokestatic 66, 3) := by decide +kernel
theorem dX7_cost_56 : decode cX7_cost 56 = .ok (.ifCond .ne 5, 3) := by decide +kernel
theorem dX7_cost_59 : decode cX7_cost 59 = .ok (.iconst (-1), 1) := by decide +kernel
theorem dX7_cost_60 : decode cX7_cost 60 = .ok (.ireturn, 1) := by decide +kernel
theorem dX7_cost_61 : decode cX7_cost 61 = .ok (.aload 6, 2) := by decide +kernel
theorem dX7_cost_63 : decode cX7_cost 63 = .ok (.getfield 92, 3) := by decide +kernel
theorem dX7_cost_66 : decode cX7_cost 66 = .ok (.iload_n 2, 1) := by decide +kernel
theorem dX7_cost_67 : decode cX7_cost 67 = .ok (.iaload, 1) := by decide +kernel
theorem dX7_cost_68 : decode cX7_cost 68 = .ok (.sipush 1000, 3) := by decide +kernel
theorem dX7_cost_71 : decode cX7_cost 71 = .ok (.invokestatic 78, 3) := by decide +kernel
theorem dX7_cost_74 : decode cX7_cost 74 = .ok (.iload 5, 2) := by decide +kernel
theorem dX7_cost_76 : decode cX7_cost 76 = .ok (.iadd, 1) := by decide +kernel
theorem dX7_cost_77 : decode cX7_cost 77 = .ok (.istore 7, 2) := by decide +kernel
theorem dX7_cost_79 : decode cX7_cost 79 = .ok (.iconst 0, 1) := by decide +kernel
theorem dX7_cost_80 : decode cX7_cost 80 = .ok (.istore 8, 2) := by decide +kernel
theorem dX7_cost_82 : decode cX7_cost 82 = .ok (.iconst 0, 1) := by decide +kernel
theorem dX7_cost_83 : decode cX7_cost 83 = .ok (.istore 9, 2) := by decide +kernel
theorem dX7_cost_85 : decode cX7_cost 85 = .ok (.iload 9, 2) := by decide +kernel
theorem dX7_cost_87 : decode cX7_cost 87 = .ok (.bipush 20, 2) := by decide +kernel
theorem dX7_cost_89 : decode cX7_cost 89 = .ok (.if_icmp .gt 53, 3) := by decide +kernel
theorem dX7_cost_92 : decode cX7_cost 92 = .ok (.iload 9, 2) := by decide +kernel
theorem dX7_cost_94 : decode cX7_cost 94 = .ok (.iload 7, 2) := by decide +kernel
theorem dX7_cost_96 : decode cX7_cost 96 = .ok (.if_icmp .le 13, 3) := by decide +kernel
theorem dX7_cost_99 : decode cX7_cost 99 = .ok (.iload_n 3, 1) := by decide +kernel
theorem dX7_cost_100 : decode cX7_cost 100 = .ok (.iload 9, 2) := by decide +kernel
theorem dX7_cost_102 : decode cX7_cost 102 = .ok (.iload 7, 2) := by decide +kernel
theorem dX7_cost_104 : decode cX7_cost 104 = .ok (.isub, 1) := by decide +kernel
theorem dX7_cost_105 : decode cX7_cost 105 = .ok (.imul, 1) := by decide +kernel
theorem dX7_cost_106 : decode cX7_cost 106 = .ok (.goto 11, 3) := by decide +kernel
theorem dX7_cost_109 : decode cX7_cost 109 = .ok (.iload 4, 2) := by decide +kernel
theorem dX7_cost_111 : decode cX7_cost 111 = .ok (.iload 7, 2) := by decide +kernel
theorem dX7_cost_113 : decode cX7_cost 113 = .ok (.iload 9, 2) := by decide +kernel
theorem dX7_cost_115 : decode cX7_cost 115 = .ok (.isub, 1) := by decide +kernel
theorem dX7_cost_116 : decode cX7_cost 116 = .ok (.imul, 1) := by decide +kernel
theorem dX7_cost_117 : decode cX7_cost 117 = .ok (.istore 10, 2) := by decide +kernel
theorem dX7_cost_119 : decode cX7_cost 119 = .ok (.iload 8, 2) := by decide +kernel
theorem dX7_cost_121 : decode cX7_cost 121 = .ok (.aload_n 0, 1) := by decide +kernel
theorem dX7_cost_122 : decode cX7_cost 122 = .ok (.getfield 38, 3) := by decide +kernel
theorem dX7_cost_125 : decode cX7_cost 125 = .ok (.iload_n 2, 1) := by decide +kernel
theorem dX7_cost_126 : decode cX7_cost 126 = .ok (.aaload, 1) := by decide +kernel
theorem dX7_cost_127 : decode cX7_cost 127 = .ok (.iload 9, 2) := by decide +kernel
theorem dX7_cost_129 : decode cX7_cost 129 = .ok (.iaload, 1) := by decide +kernel
theorem dX7_cost_130 : decode cX7_cost 130 = .ok (.iload 10, 2) := by decide +kernel
theorem dX7_cost_132 : decode cX7_cost 132 = .ok (.imul, 1) := by decide +kernel
theorem dX7_cost_133 : decode cX7_cost 133 = .ok (.iadd, 1) := by decide +kernel
theorem dX7_cost_134 : decode cX7_cost 134 = .ok (.istore 8, 2) := by decide +kernel
theorem dX7_cost_136 : decode cX7_cost 136 = .ok (.iinc 9 1, 3) := by decide +kernel
theorem dX7_cost_139 : decode cX7_cost 139 = .ok (.goto (-54), 3) := by decide +kernel
theorem dX7_cost_142 : decode cX7_cost 142 = .ok (.iload 8, 2) := by decide +kernel
theorem dX7_cost_144 : decode cX7_cost 144 = .ok (.ireturn, 1) := by decide +kernel
theorem dX7_areWantsRight_0 : decode cX7_areWantsRight 0 = .ok (.iconst 0, 1) := by decide +kernel
theorem dX7_areWantsRight_1 : decode cX7_areWantsRight 1 = .ok (.istore_n 2, 1) := by decide +kernel
theorem dX7_areWantsRight_2 : decode cX7_areWantsRight 2 = .ok (.iconst 0, 1) := by decide +kernel
theorem dX7_areWantsRight_3 : decode cX7_areWantsRight 3 = .ok (.istore_n 3, 1) := by decide +kernel
theorem dX7_areWantsRight_4 : decode cX7_areWantsRight 4 = .ok (.iload_n 3, 1) := by decide +kernel
theorem dX7_areWantsRight_5 : decode cX7_areWantsRight 5 = .ok (.bipush 20, 2) := by decide +kernel
theorem dX7_areWantsRight_7 : decode cX7_areWantsRight 7 = .ok (.if_icmp .gt 20, 3) := by decide +kernel
theorem dX7_areWantsRight_10 : decode cX7_areWantsRight 10 = .ok (.iload_n 2, 1) := by decide +kernel
theorem dX7_areWantsRight_11 : decode cX7_areWantsRight 11 = .ok (.aload_n 0, 1) := by decide +kernel
theorem dX7_areWantsRight_12 : decode cX7_areWantsRight 12 = .ok (.getfield 38, 3) := by decide +kernel
theorem dX7_areWantsRight_15 : decode cX7_areWantsRight 15 = .ok (.iload_n 1, 1) := by decide +kernel
theorem dX7_areWantsRight_16 : decode cX7_areWantsRight 16 = .ok (.aaload, 1) := by decide +kernel
theorem dX7_areWantsRight_17 : decode cX7_areWantsRight 17 = .ok (.iload_n 3, 1) := by decide +kernel
theorem dX7_areWantsRight_18 : decode cX7_areWantsRight 18 = .ok (.iaload, 1) := by decide +kernel
theorem dX7_areWantsRight_19 : decode cX7_areWantsRight 19 = .ok (.iadd, 1) := by decide +kernel
theorem dX7_areWantsRight_20 : decode cX7_areWantsRight 20 = .ok (.istore_n 2, 1) := by decide +kernel
theorem dX7_areWantsRight_21 : decode cX7_areWantsRight 21 = .ok (.iinc 3 1, 3) := by decide +kernel
theorem dX7_areWantsRight_24 : decode cX7_areWantsRight 24 = .ok (.goto (-20), 3) := by decide +kernel
theorem dX7_areWantsRight_27 : decode cX7_areWantsRight 27 = .ok (.iload_n 2, 1) := by decide +kernel
theorem dX7_areWantsRight_28 : decode cX7_areWantsRight 28 = .ok (.sipush 1000, 3) := by decide +kernel
theorem dX7_areWantsRight_31 : decode cX7_areWantsRight 31 = .ok (.if_icmp .ne 7, 3) := by decide +kernel
theorem dX7_areWantsRight_34 : decode cX7_areWantsRight 34 = .ok (.iconst 1, 1) := by decide +kernel
theorem dX7_areWantsRight_35 : decode cX7_areWantsRight 35 = .ok (.goto 4, 3) := by decide +kernel
theorem dX7_areWantsRight_38 : decode cX7_areWantsRight 38 = .ok (.iconst 0, 1) := by decide +kernel
theorem dX7_areWantsRight_39 : decode cX7_areWantsRight 39 = .ok (.ireturn, 1) := by decide +kernel
set_option maxRecDepth 20000 in
theorem ggX7_quarrel_X7_areTwoPosts : GoodIn wsX7_quarrel wsX7_areTwoPosts := goodIn_r _ [6, 7, 8, 9, 5, 10, 11, 30, 31, 32, 33, 34, 35, 36, 37, 38, 39, 40, 41, 42, 43] (by decide +kernel) (by decide +kernel)
set_option maxRecDepth 20000 in
theorem gX7_quarrel_X7_areTwoPosts : GoodIn wsX7_quarrel (wsV RX7 59 RX7 yX7_areTwoPosts wsX7_areTwoPosts) := goodIn_app (goodIn_of _ (by decide +kernel)) ggX7_quarrel_X7_areTwoPosts
set_option maxRecDepth 20000 in
theorem ggX7_quarrel_X7_canoeAt : GoodIn wsX7_quarrel wsX7_canoeAt := goodIn_r _ [15, 16, 30, 31, 32, 33, 34, 35, 36, 37, 38, 39, 40, 41, 42, 43] (by decide +kernel) (by decide +kernel)
set_option maxRecDepth 20000 in
theorem gX7_quarrel_X7_canoeAt : GoodIn wsX7_quarrel (wsV RX7 138 RX7 yX7_canoeAt wsX7_canoeAt) := goodIn_app (goodIn_of _ (by decide +kernel)) ggX7_quarrel_X7_canoeAt
set_option maxRecDepth 20000 in
theorem ggX7_quarrel_X0_isBetween : GoodIn wsX7_quarrel wsX0_isBetween := goodIn_r _ [21, 22, 23, 44, 45, 46, 47, 48, 49, 50, 51, 52, 53, 54] (by decide +kernel) (by decide +kernel)
set_option maxRecDepth 20000 in
theorem gX7_quarrel_X0_isBetween : GoodIn wsX7_quarrel (wsV RX7 257 RX0 yX0_isBetween wsX0_isBetween) := goodIn_app (goodIn_of _ (by decide +kernel)) ggX7_quarrel_X0_isBetween
set_option maxRecDepth 20000 in
theorem ggX7_quarrel_X0_partsBooks : GoodIn wsX7_quarrel wsX0_partsBooks := goodIn_r _ [27, 28, 29, 44, 45, 46, 47, 48, 49, 50, 51, 52, 53, 54] (by decide +kernel) (by decide +kernel)
set_option maxRecDepth 20000 in
theorem gX7_quarrel_X0_partsBooks : GoodIn wsX7_quarrel (wsV RX7 260 RX0 yX0_partsBooks wsX0_partsBooks) := goodIn_app (goodIn_of _ (by decide +kernel)) ggX7_quarrel_X0_partsBooks
theorem dX7_quarrel_0 : decode cX7_quarrel 0 = .ok (.aload_n 0, 1) := by decide +kernel
theorem dX7_quarrel_1 : decode cX7_quarrel 1 = .ok (.iload_n 1, 1) := by decide +kernel
theorem dX7_quarrel_2 : decode cX7_quarrel 2 = .ok (.iload_n 2, 1) := by decide +kernel
theorem dX7_quarrel_3 : decode cX7_quarrel 3 = .ok (.invokevirtual 59, 3) := by decide +kernel
theorem dX7_quarrel_6 : decode cX7_quarrel 6 = .ok (.ifCond .ne 5, 3) := by decide +kernel
theorem dX7_quarrel_9 : decode cX7_quarrel 9 = .ok (.iconst (-1), 1) := by decide +kernel
theorem dX7_quarrel_10 : decode cX7_quarrel 10 = .ok (.ireturn, 1) := by decide +kernel
theorem dX7_quarrel_11 : decode cX7_quarrel 11 = .ok (.iconst 0, 1) := by decide +kernel
theorem dX7_quarrel_12 : decode cX7_quarrel 12 = .ok (.istore_n 3, 1) := by decide +kernel
theorem dX7_quarrel_13 : decode cX7_quarrel 13 = .ok (.iload_n 3, 1) := by decide +kernel
theorem dX7_quarrel_14 : decode cX7_quarrel 14 = .ok (.aload_n 0, 1) := by decide +kernel
theorem dX7_quarrel_15 : decode cX7_quarrel 15 = .ok (.getfield 113, 3) := by decide +kernel
theorem dX7_quarrel_18 : decode cX7_quarrel 18 = .ok (.if_icmp .ge 41, 3) := by decide +kernel
theorem dX7_quarrel_21 : decode cX7_quarrel 21 = .ok (.aload_n 0, 1) := by decide +kernel
theorem dX7_quarrel_22 : decode cX7_quarrel 22 = .ok (.iload_n 3, 1) := by decide +kernel
theorem dX7_quarrel_23 : decode cX7_quarrel 23 = .ok (.invokevirtual 138, 3) := by decide +kernel
theorem dX7_quarrel_26 : decode cX7_quarrel 26 = .ok (.astore 4, 2) := by decide +kernel
theorem dX7_quarrel_28 : decode cX7_quarrel 28 = .ok (.aload 4, 2) := by decide +kernel
theorem dX7_quarrel_30 : decode cX7_quarrel 30 = .ok (.ifnull 23, 3) := by decide +kernel
theorem dX7_quarrel_33 : decode cX7_quarrel 33 = .ok (.aload 4, 2) := by decide +kernel
theorem dX7_quarrel_35 : decode cX7_quarrel 35 = .ok (.iload_n 1, 1) := by decide +kernel
theorem dX7_quarrel_36 : decode cX7_quarrel 36 = .ok (.iload_n 2, 1) := by decide +kernel
theorem dX7_quarrel_37 : decode cX7_quarrel 37 = .ok (.invokevirtual 257, 3) := by decide +kernel
theorem dX7_quarrel_40 : decode cX7_quarrel 40 = .ok (.ifCond .eq 13, 3) := by decide +kernel
theorem dX7_quarrel_43 : decode cX7_quarrel 43 = .ok (.aload 4, 2) := by decide +kernel
theorem dX7_quarrel_45 : decode cX7_quarrel 45 = .ok (.invokevirtual 260, 3) := by decide +kernel
theorem dX7_quarrel_48 : decode cX7_quarrel 48 = .ok (.ifCond .eq 5, 3) := by decide +kernel
theorem dX7_quarrel_51 : decode cX7_quarrel 51 = .ok (.iload_n 3, 1) := by decide +kernel
theorem dX7_quarrel_52 : decode cX7_quarrel 52 = .ok (.ireturn, 1) := by decide +kernel
theorem dX7_quarrel_53 : decode cX7_quarrel 53 = .ok (.iinc 3 1, 3) := by decide +kernel
theorem dX7_quarrel_56 : decode cX7_quarrel 56 = .ok (.goto (-43), 3) := by decide +kernel
theorem dX7_quarrel_59 : decode cX7_quarrel 59 = .ok (.iconst (-1), 1) := by decide +kernel
theorem dX7_quarrel_60 : decode cX7_quarrel 60 = .ok (.ireturn, 1) := by decide +kernel
set_option maxRecDepth 20000 in
theorem ggX7_canoe_X7_canoeAt : GoodIn wsX7_canoe wsX7_canoeAt := goodIn_r _ [15, 16, 31, 32, 33, 34, 35, 36, 37, 38, 39, 40, 41, 42, 43, 44] (by decide +kernel) (by decide +kernel)
set_option maxRecDepth 20000 in
theorem gX7_canoe_X7_canoeAt : GoodIn wsX7_canoe (wsV RX7 138 RX7 yX7_canoeAt wsX7_canoeAt) := goodIn_app (goodIn_of _ (by decide +kernel)) ggX7_canoe_X7_canoeAt
set_option maxRecDepth 20000 in
theorem ggX7_canoe_X7_isWare : GoodIn wsX7_canoe wsX7_isWare := goodIn_r _ [19] (by decide +kernel) (by decide +kernel)
set_option maxRecDepth 20000 in
theorem gX7_canoe_X7_isWare : GoodIn wsX7_canoe (va_wsS RX7 88 yX7_isWare wsX7_isWare) := goodIn_app (goodIn_of _ (by decide +kernel)) ggX7_canoe_X7_isWare
theorem dX7_canoe_0 : decode cX7_canoe 0 = .ok (.aload_n 0, 1) := by decide +kernel
theorem dX7_canoe_1 : decode cX7_canoe 1 = .ok (.iload_n 1, 1) := by decide +kernel
theorem dX7_canoe_2 : decode cX7_canoe 2 = .ok (.invokevirtual 138, 3) := by decide +kernel
theorem dX7_canoe_5 : decode cX7_canoe 5 = .ok (.astore_n 3, 1) := by decide +kernel
theorem dX7_canoe_6 : decode cX7_canoe 6 = .ok (.aload_n 3, 1) := by decide +kernel
theorem dX7_canoe_7 : decode cX7_canoe 7 = .ok (.ifnonnull 5, 3) := by decide +kernel
theorem dX7_canoe_10 : decode cX7_canoe 10 = .ok (.iconst (-1), 1) := by decide +kernel
theorem dX7_canoe_11 : decode cX7_canoe 11 = .ok (.ireturn, 1) := by decide +kernel
theorem dX7_canoe_12 : decode cX7_canoe 12 = .ok (.iload_n 2, 1) := by decide +kernel
theorem dX7_canoe_13 : decode cX7_canoe 13 = .ok (.bipush 10, 2) := by decide +kernel
theorem dX7_canoe_15 : decode cX7_canoe 15 = .ok (.isub, 1) := by decide +kernel
theorem dX7_canoe_16 : decode cX7_canoe 16 = .ok (.invokestatic 88, 3) := by decide +kernel
theorem dX7_canoe_19 : decode cX7_canoe 19 = .ok (.ifCond .eq 13, 3) := by decide +kernel
theorem dX7_canoe_22 : decode cX7_canoe 22 = .ok (.aload_n 3, 1) := by decide +kernel
theorem dX7_canoe_23 : decode cX7_canoe 23 = .ok (.getfield 148, 3) := by decide +kernel
theorem dX7_canoe_26 : decode cX7_canoe 26 = .ok (.iload_n 2, 1) := by decide +kernel
theorem dX7_canoe_27 : decode cX7_canoe 27 = .ok (.bipush 10, 2) := by decide +kernel
theorem dX7_canoe_29 : decode cX7_canoe 29 = .ok (.isub, 1) := by decide +kernel
theorem dX7_canoe_30 : decode cX7_canoe 30 = .ok (.iaload, 1) := by decide +kernel
theorem dX7_canoe_31 : decode cX7_canoe 31 = .ok (.ireturn, 1) := by decide +kernel
theorem dX7_canoe_32 : decode cX7_canoe 32 = .ok (.iload_n 2, 1) := by decide +kernel
theorem dX7_canoe_33 : decode cX7_canoe 33 = .ok (.bipush 20, 2) := by decide +kernel
theorem dX7_canoe_35 : decode cX7_canoe 35 = .ok (.isub, 1) := by decide +kernel
theorem dX7_canoe_36 : decode cX7_canoe 36 = .ok (.invokestatic 88, 3) := by decide +kernel
theorem dX7_canoe_39 : decode cX7_canoe 39 = .ok (.ifCond .eq 13, 3) := by decide +kernel
theorem dX7_canoe_42 : decode cX7_canoe 42 = .ok (.aload_n 3, 1) := by decide +kernel
theorem dX7_canoe_43 : decode cX7_canoe 43 = .ok (.getfield 264, 3) := by decide +kernel
theorem dX7_canoe_46 : decode cX7_canoe 46 = .ok (.iload_n 2, 1) := by decide +kernel
theorem dX7_canoe_47 : decode cX7_canoe 47 = .ok (.bipush 20, 2) := by decide +kernel
theorem dX7_canoe_49 : decode cX7_canoe 49 = .ok (.isub, 1) := by decide +kernel
theorem dX7_canoe_50 : decode cX7_canoe 50 = .ok (.iaload, 1) := by decide +kernel
theorem dX7_canoe_51 : decode cX7_canoe 51 = .ok (.ireturn, 1) := by decide +kernel
theorem dX7_canoe_52 : decode cX7_canoe 52 = .ok (.iload_n 2, 1) := by decide +kernel
theorem dX7_canoe_53 : decode cX7_canoe 53 = .ok (.tableswitch 87 0 7 #[47, 52, 57, 62, 67, 72, 77, 82], 47) := by decide +kernel
theorem dX7_canoe_100 : decode cX7_canoe 100 = .ok (.aload_n 3, 1) := by decide +kernel
theorem dX7_canoe_101 : decode cX7_canoe 101 = .ok (.getfield 175, 3) := by decide +kernel
theorem dX7_canoe_104 : decode cX7_canoe 104 = .ok (.ireturn, 1) := by decide +kernel
theorem dX7_canoe_105 : decode cX7_canoe 105 = .ok (.aload_n 3, 1) := by decide +kernel
theorem dX7_canoe_106 : decode cX7_canoe 106 = .ok (.getfield 184, 3) := by decide +kernel
theorem dX7_canoe_109 : decode cX7_canoe 109 = .ok (.ireturn, 1) := by decide +kernel
theorem dX7_canoe_110 : decode cX7_canoe 110 = .ok (.aload_n 3, 1) := by decide +kernel
theorem dX7_canoe_111 : decode cX7_canoe 111 = .ok (.getfield 193, 3) := by decide +kernel
theorem dX7_canoe_114 : decode cX7_canoe 114 = .ok (.ireturn, 1) := by decide +kernel
theorem dX7_canoe_115 : decode cX7_canoe 115 = .ok (.aload_n 3, 1) := by decide +kernel
theorem dX7_canoe_116 : decode cX7_canoe 116 = .ok (.getfield 145, 3) := by decide +kernel
theorem dX7_canoe_119 : decode cX7_canoe 119 = .ok (.ireturn, 1) := by decide +kernel
theorem dX7_canoe_120 : decode cX7_canoe 120 = .ok (.aload_n 3, 1) := by decide +kernel
theorem dX7_canoe_121 : decode cX7_canoe 121 = .ok (.getfield 142, 3) := by decide +kernel
theorem dX7_canoe_124 : decode cX7_canoe 124 = .ok (.ireturn, 1) := by decide +kernel
theorem dX7_canoe_125 : decode cX7_canoe 125 = .ok (.aload_n 3, 1) := by decide +kernel
theorem dX7_canoe_126 : decode cX7_canoe 126 = .ok (.getfield 267, 3) := by decide +kernel
theorem dX7_canoe_129 : decode cX7_canoe 129 = .ok (.ireturn, 1) := by decide +kernel
theorem dX7_canoe_130 : decode cX7_canoe 130 = .ok (.aload_n 3, 1) := by decide +kernel
theorem dX7_canoe_131 : decode cX7_canoe 131 = .ok (.getfield 204, 3) := by decide +kernel
theorem dX7_canoe_134 : decode cX7_canoe 134 = .ok (.ireturn, 1) := by decide +kernel
theorem dX7_canoe_135 : decode cX7_canoe 135 = .ok (.aload_n 3, 1) := by decide +kernel
theorem dX7_canoe_136 : decode cX7_canoe 136 = .ok (.getfield 135, 3) := by decide +kernel
theorem dX7_canoe_139 : decode cX7_canoe 139 = .ok (.ireturn, 1) := by decide +kernel
theorem dX7_canoe_140 : decode cX7_canoe 140 = .ok (.iconst (-1), 1) := by decide +kernel
theorem dX7_canoe_141 : decode cX7_canoe 141 = .ok (.ireturn, 1) := by decide +kernel
set_option maxRecDepth 20000 in
theorem ggX7_told_X7_postAt : GoodIn wsX7_told wsX7_postAt := goodIn_r _ [6, 7, 32, 33, 34, 35, 36, 37, 38, 39, 40, 41, 42, 43, 44, 45] (by decide +kernel) (by decide +kernel)
set_option maxRecDepth 20000 in
theorem gX7_told_X7_postAt : GoodIn wsX7_told (wsV RX7 84 RX7 yX7_postAt wsX7_postAt) := goodIn_app (goodIn_of _ (by decide +kernel)) ggX7_told_X7_postAt
set_option maxRecDepth 20000 in
theorem ggX7_told_X7_isWare : GoodIn wsX7_told wsX7_isWare := goodIn_r _ [10] (by decide +kernel) (by decide +kernel)
set_option maxRecDepth 20000 in
theorem gX7_told_X7_isWare : GoodIn wsX7_told (va_wsS RX7 88 yX7_isWare wsX7_isWare) := goodIn_app (goodIn_of _ (by decide +kernel)) ggX7_told_X7_isWare
set_option maxRecDepth 20000 in
theorem ggX7_told_X7_countBag : GoodIn wsX7_told wsX7_countBag := goodIn_r _ [14, 15, 16, 17, 18, 19, 5, 20, 21, 32, 33, 34, 35, 36, 37, 38, 39, 40, 41, 42, 43, 44, 45, 46, 47, 48, 49, 50, 51, 52, 53, 54, 55, 56, 57, 58, 59, 60, 61, 62, 63] (by decide +kernel) (by decide +kernel)
set_option maxRecDepth 20000 in
theorem gX7_told_X7_countBag : GoodIn wsX7_told (wsV RX7 270 RX7 yX7_countBag wsX7_countBag) := goodIn_app (goodIn_of _ (by decide +kernel)) ggX7_told_X7_countBag
set_option maxRecDepth 20000 in
theorem ggX7_told_X4_owedByAll : GoodIn wsX7_told wsX4_owedByAll := goodIn_r _ [26, 27, 28, 29, 30, 31] (by decide +kernel) (by decide +kernel)
set_option maxRecDepth 20000 in
theorem gX7_told_X4_owedByAll : GoodIn wsX7_told (wsV RX7 273 RX4 yX4_owedByAll wsX4_owedByAll) := goodIn_app (goodIn_of _ (by decide +kernel)) ggX7_told_X4_owedByAll
theorem dX7_told_0 : decode cX7_told 0 = .ok (.aload_n 0, 1) := by decide +kernel
theorem dX7_told_1 : decode cX7_told 1 = .ok (.iload_n 1, 1) := by decide +kernel
theorem dX7_told_2 : decode cX7_told 2 = .ok (.invokevirtual 84, 3) := by decide +kernel
theorem dX7_told_5 : decode cX7_told 5 = .ok (.astore_n 3, 1) := by decide +kernel
theorem dX7_told_6 : decode cX7_told 6 = .ok (.aload_n 3, 1) := by decide +kernel
theorem dX7_told_7 : decode cX7_told 7 = .ok (.ifnonnull 5, 3) := by decide +kernel
theorem dX7_told_10 : decode cX7_told 10 = .ok (.iconst (-1), 1) := by decide +kernel
theorem dX7_told_11 : decode cX7_told 11 = .ok (.ireturn, 1) := by decide +kernel
theorem dX7_told_12 : decode cX7_told 12 = .ok (.iload_n 2, 1) := by decide +kernel
theorem dX7_told_13 : decode cX7_told 13 = .ok (.invokestatic 88, 3) := by decide +kernel
theorem dX7_told_16 : decode cX7_told 16 = .ok (.ifCond .eq 10, 3) := by decide +kernel
theorem dX7_told_19 : decode cX7_told 19 = .ok (.aload_n 3, 1) := by decide +kernel
theorem dX7_told_20 : decode cX7_told 20 = .ok (.getfield 92, 3) := by decide +kernel
theorem dX7_told_23 : decode cX7_told 23 = .ok (.iload_n 2, 1) := by decide +kernel
theorem dX7_told_24 : decode cX7_told 24 = .ok (.iaload, 1) := by decide +kernel
theorem dX7_told_25 : decode cX7_told 25 = .ok (.ireturn, 1) := by decide +kernel
theorem dX7_told_26 : decode cX7_told 26 = .ok (.iload_n 2, 1) := by decide +kernel
theorem dX7_told_27 : decode cX7_told 27 = .ok (.lookupswitch 36 #[(6, 25), (7, 31)], 25) := by decide +kernel
theorem dX7_told_52 : decode cX7_told 52 = .ok (.aload_n 0, 1) := by decide +kernel
theorem dX7_told_53 : decode cX7_told 53 = .ok (.iload_n 1, 1) := by decide +kernel
theorem dX7_told_54 : decode cX7_told 54 = .ok (.invokevirtual 270, 3) := by decide +kernel
theorem dX7_told_57 : decode cX7_told 57 = .ok (.ireturn, 1) := by decide +kernel
theorem dX7_told_58 : decode cX7_told 58 = .ok (.aload_n 3, 1) := by decide +kernel
theorem dX7_told_59 : decode cX7_told 59 = .ok (.invokevirtual 273, 3) := by decide +kernel
theorem dX7_told_62 : decode cX7_told 62 = .ok (.ireturn, 1) := by decide +kernel
theorem dX7_told_63 : decode cX7_told 63 = .ok (.iconst (-1), 1) := by decide +kernel
theorem dX7_told_64 : decode cX7_told 64 = .ok (.ireturn, 1) := by decide +kernel
set_option maxRecDepth 20000 in
theorem ggX7_count_X7_countOfAll : GoodIn wsX7_count wsX7_countOfAll := goodIn_r _ [6, 7, 8, 9, 10, 11, 12, 19, 20, 21, 22, 23, 24, 25, 26, 27, 28, 29, 30, 31, 32] (by decide +kernel) (by decide +kernel)
set_option maxRecDepth 20000 in
theorem gX7_count_X7_countOfAll : GoodIn wsX7_count (wsV RX7 277 RX7 yX7_countOfAll wsX7_countOfAll) := goodIn_app (goodIn_of _ (by decide +kernel)) ggX7_count_X7_countOfAll
set_option maxRecDepth 20000 in
theorem ggX7_count_X7_isWare : GoodIn wsX7_count wsX7_isWare := goodIn_r _ [15] (by decide +kernel) (by decide +kernel)
set_option maxRecDepth 20000 in
theorem gX7_count_X7_isWare : GoodIn wsX7_count (va_wsS RX7 88 yX7_isWare wsX7_isWare) := goodIn_app (goodIn_of _ (by decide +kernel)) ggX7_count_X7_isWare
set_option maxRecDepth 20000 in
theorem ggX7_count_X7_isWithin : GoodIn wsX7_count wsX7_isWithin := goodIn_r _ [18] (by decide +kernel) (by decide +kernel)
set_option maxRecDepth 20000 in
theorem gX7_count_X7_isWithin : GoodIn wsX7_count (va_wsS RX7 66 yX7_isWithin wsX7_isWithin) := goodIn_app (goodIn_of _ (by decide +kernel)) ggX7_count_X7_isWithin
theorem dX7_count_0 : decode cX7_count 0 = .ok (.iload_n 1, 1) := by decide +kernel
theorem dX7_count_1 : decode cX7_count 1 = .ok (.iconst (-1), 1) := by decide +kernel
theorem dX7_count_2 : decode cX7_count 2 = .ok (.if_icmp .ne 9, 3) := by decide +kernel
theorem dX7_count_5 : decode cX7_count 5 = .ok (.aload_n 0, 1) := by decide +kernel
theorem dX7_count_6 : decode cX7_count 6 = .ok (.iload_n 2, 1) := by decide +kernel
theorem dX7_count_7 : decode cX7_count 7 = .ok (.invokevirtual 277, 3) := by decide +kernel
theorem dX7_count_10 : decode cX7_count 10 = .ok (.ireturn, 1) := by decide +kernel
theorem dX7_count_11 : decode cX7_count 11 = .ok (.iload_n 1, 1) := by decide +kernel
theorem dX7_count_12 : decode cX7_count 12 = .ok (.invokestatic 88, 3) := by decide +kernel
theorem dX7_count_15 : decode cX7_count 15 = .ok (.ifCond .eq 23, 3) := by decide +kernel
theorem dX7_count_18 : decode cX7_count 18 = .ok (.iload_n 2, 1) := by decide +kernel
theorem dX7_count_19 : decode cX7_count 19 = .ok (.iconst 0, 1) := by decide +kernel
theorem dX7_count_20 : decode cX7_count 20 = .ok (.iconst 5, 1) := by decide +kernel
theorem dX7_count_21 : decode cX7_count 21 = .ok (.invokestatic 66, 3) := by decide +kernel
theorem dX7_count_24 : decode cX7_count 24 = .ok (.ifCond .eq 14, 3) := by decide +kernel
theorem dX7_count_27 : decode cX7_count 27 = .ok (.aload_n 0, 1) := by decide +kernel
theorem dX7_count_28 : decode cX7_count 28 = .ok (.getfield 41, 3) := by decide +kernel
theorem dX7_count_31 : decode cX7_count 31 = .ok (.iload_n 1, 1) := by decide +kernel
theorem dX7_count_32 : decode cX7_count 32 = .ok (.aaload, 1) := by decide +kernel
theorem dX7_count_33 : decode cX7_count 33 = .ok (.iload_n 2, 1) := by decide +kernel
theorem dX7_count_34 : decode cX7_count 34 = .ok (.iaload, 1) := by decide +kernel
theorem dX7_count_35 : decode cX7_count 35 = .ok (.goto 4, 3) := by decide +kernel
theorem dX7_count_38 : decode cX7_count 38 = .ok (.iconst (-1), 1) := by decide +kernel
theorem dX7_count_39 : decode cX7_count 39 = .ok (.ireturn, 1) := by decide +kernel
set_option maxRecDepth 20000 in
theorem ggX7_countBag_X7_letterAt : GoodIn wsX7_countBag wsX7_letterAt := goodIn_r _ [7, 8, 9, 10, 11, 12, 13, 14, 15, 16, 17, 18, 19, 20, 21, 22] (by decide +kernel) (by decide +kernel)
set_option maxRecDepth 20000 in
theorem gX7_countBag_X7_letterAt : GoodIn wsX7_countBag (wsV RX7 168 RX7 yX7_letterAt wsX7_letterAt) := goodIn_app (goodIn_of _ (by decide +kernel)) ggX7_countBag_X7_letterAt
theorem dX7_countBag_0 : decode cX7_countBag 0 = .ok (.iconst 0, 1) := by decide +kernel
theorem dX7_countBag_1 : decode cX7_countBag 1 = .ok (.istore_n 2, 1) := by decide +kernel
theorem dX7_countBag_2 : decode cX7_countBag 2 = .ok (.iconst 0, 1) := by decide +kernel
theorem dX7_countBag_3 : decode cX7_countBag 3 = .ok (.istore_n 3, 1) := by decide +kernel
theorem dX7_countBag_4 : decode cX7_countBag 4 = .ok (.iload_n 3, 1) := by decide +kernel
theorem dX7_countBag_5 : decode cX7_countBag 5 = .ok (.aload_n 0, 1) := by decide +kernel
theorem dX7_countBag_6 : decode cX7_countBag 6 = .ok (.getfield 165, 3) := by decide +kernel
theorem dX7_countBag_9 : decode cX7_countBag 9 = .ok (.if_icmp .ge 33, 3) := by decide +kernel
theorem dX7_countBag_12 : decode cX7_countBag 12 = .ok (.aload_n 0, 1) := by decide +kernel
theorem dX7_countBag_13 : decode cX7_countBag 13 = .ok (.iload_n 3, 1) := by decide +kernel
theorem dX7_countBag_14 : decode cX7_countBag 14 = .ok (.invokevirtual 168, 3) := by decide +kernel
theorem dX7_countBag_17 : decode cX7_countBag 17 = .ok (.astore 4, 2) := by decide +kernel
theorem dX7_countBag_19 : decode cX7_countBag 19 = .ok (.aload 4, 2) := by decide +kernel
theorem dX7_countBag_21 : decode cX7_countBag 21 = .ok (.ifnull 15, 3) := by decide +kernel
theorem dX7_countBag_24 : decode cX7_countBag 24 = .ok (.aload 4, 2) := by decide +kernel
theorem dX7_countBag_26 : decode cX7_countBag 26 = .ok (.getfield 172, 3) := by decide +kernel
theorem dX7_countBag_29 : decode cX7_countBag 29 = .ok (.iload_n 1, 1) := by decide +kernel
theorem dX7_countBag_30 : decode cX7_countBag 30 = .ok (.if_icmp .ne 6, 3) := by decide +kernel
theorem dX7_countBag_33 : decode cX7_countBag 33 = .ok (.iinc 2 1, 3) := by decide +kernel
theorem dX7_countBag_36 : decode cX7_countBag 36 = .ok (.iinc 3 1, 3) := by decide +kernel
theorem dX7_countBag_39 : decode cX7_countBag 39 = .ok (.goto (-35), 3) := by decide +kernel
theorem dX7_countBag_42 : decode cX7_countBag 42 = .ok (.iload_n 2, 1) := by decide +kernel
theorem dX7_countBag_43 : decode cX7_countBag 43 = .ok (.ireturn, 1) := by decide +kernel
theorem dX7_countOfAll_0 : decode cX7_countOfAll 0 = .ok (.iload_n 1, 1) := by decide +kernel
theorem dX7_countOfAll_1 : decode cX7_countOfAll 1 = .ok (.tableswitch 69 0 5 #[39, 44, 49, 54, 59, 64], 39) := by decide +kernel
theorem dX7_countOfAll_40 : decode cX7_countOfAll 40 = .ok (.aload_n 0, 1) := by decide +kernel
theorem dX7_countOfAll_41 : decode cX7_countOfAll 41 = .ok (.getfield 103, 3) := by decide +kernel
theorem dX7_countOfAll_44 : decode cX7_countOfAll 44 = .ok (.ireturn, 1) := by decide +kernel
theorem dX7_countOfAll_45 : decode cX7_countOfAll 45 = .ok (.aload_n 0, 1) := by decide +kernel
theorem dX7_countOfAll_46 : decode cX7_countOfAll 46 = .ok (.getfield 54, 3) := by decide +kernel
theorem dX7_countOfAll_49 : decode cX7_countOfAll 49 = .ok (.ireturn, 1) := by decide +kernel
theorem dX7_countOfAll_50 : decode cX7_countOfAll 50 = .ok (.aload_n 0, 1) := by decide +kernel
theorem dX7_countOfAll_51 : decode cX7_countOfAll 51 = .ok (.getfield 63, 3) := by decide +kernel
theorem dX7_countOfAll_54 : decode cX7_countOfAll 54 = .ok (.ireturn, 1) := by decide +kernel
theorem dX7_countOfAll_55 : decode cX7_countOfAll 55 = .ok (.aload_n 0, 1) := by decide +kernel
theorem dX7_countOfAll_56 : decode cX7_countOfAll 56 = .ok (.getfield 113, 3) := by decide +kernel
theorem dX7_countOfAll_59 : decode cX7_countOfAll 59 = .ok (.ireturn, 1) := by decide +kernel
theorem dX7_countOfAll_60 : decode cX7_countOfAll 60 = .ok (.aload_n 0, 1) := by decide +kernel
theorem dX7_countOfAll_61 : decode cX7_countOfAll 61 = .ok (.getfield 165, 3) := by decide +kernel
theorem dX7_countOfAll_64 : decode cX7_countOfAll 64 = .ok (.ireturn, 1) := by decide +kernel
theorem dX7_countOfAll_65 : decode cX7_countOfAll 65 = .ok (.aload_n 0, 1) := by decide +kernel
theorem dX7_countOfAll_66 : decode cX7_countOfAll 66 = .ok (.getfield 190, 3) := by decide +kernel
theorem dX7_countOfAll_69 : decode cX7_countOfAll 69 = .ok (.ireturn, 1) := by decide +kernel
theorem dX7_countOfAll_70 : decode cX7_countOfAll 70 = .ok (.iconst (-1), 1) := by decide +kernel
theorem dX7_countOfAll_71 : decode cX7_countOfAll 71 = .ok (.ireturn, 1) := by decide +kernel
theorem dX7_isWithin_0 : decode cX7_isWithin 0 = .ok (.iload_n 0, 1) := by decide +kernel
theorem dX7_isWithin_1 : decode cX7_isWithin 1 = .ok (.iload_n 1, 1) := by decide +kernel
theorem dX7_isWithin_2 : decode cX7_isWithin 2 = .ok (.if_icmp .lt 12, 3) := by decide +kernel
theorem dX7_isWithin_5 : decode cX7_isWithin 5 = .ok (.iload_n 0, 1) := by decide +kernel
theorem dX7_isWithin_6 : decode cX7_isWithin 6 = .ok (.iload_n 2, 1) := by decide +kernel
theorem dX7_isWithin_7 : decode cX7_isWithin 7 = .ok (.if_icmp .gt 7, 3) := by decide +kernel
theorem dX7_isWithin_10 : decode cX7_isWithin 10 = .ok (.iconst 1, 1) := by decide +kernel
theorem dX7_isWithin_11 : decode cX7_isWithin 11 = .ok (.goto 4, 3) := by decide +kernel
theorem dX7_isWithin_14 : decode cX7_isWithin 14 = .ok (.iconst 0, 1) := by decide +kernel
theorem dX7_isWithin_15 : decode cX7_isWithin 15 = .ok (.ireturn, 1) := by decide +kernel
theorem dX7_isWare_0 : decode cX7_isWare 0 = .ok (.iload_n 0, 1) := by decide +kernel
theorem dX7_isWare_1 : decode cX7_isWare 1 = .ok (.ifCond .lt 13, 3) := by decide +kernel
theorem dX7_isWare_4 : decode cX7_isWare 4 = .ok (.iload_n 0, 1) := by decide +kernel
theorem dX7_isWare_5 : decode cX7_isWare 5 = .ok (.bipush 6, 2) := by decide +kernel
theorem dX7_isWare_7 : decode cX7_isWare 7 = .ok (.if_icmp .ge 7, 3) := by decide +kernel
theorem dX7_isWare_10 : decode cX7_isWare 10 = .ok (.iconst 1, 1) := by decide +kernel
theorem dX7_isWare_11 : decode cX7_isWare 11 = .ok (.goto 4, 3) := by decide +kernel
theorem dX7_isWare_14 : decode cX7_isWare 14 = .ok (.iconst 0, 1) := by decide +kernel
theorem dX7_isWare_15 : decode cX7_isWare 15 = .ok (.ireturn, 1) := by decide +kernel
theorem dX7_isHunter_0 : decode cX7_isHunter 0 = .ok (.iload_n 0, 1) := by decide +kernel
theorem dX7_isHunter_1 : decode cX7_isHunter 1 = .ok (.ifCond .lt 13, 3) := by decide +kernel
theorem dX7_isHunter_4 : decode cX7_isHunter 4 = .ok (.iload_n 0, 1) := by decide +kernel
theorem dX7_isHunter_5 : decode cX7_isHunter 5 = .ok (.bipush 12, 2) := by decide +kernel
theorem dX7_isHunter_7 : decode cX7_isHunter 7 = .ok (.if_icmp .ge 7, 3) := by decide +kernel
theorem dX7_isHunter_10 : decode cX7_isHunter 10 = .ok (.iconst 1, 1) := by decide +kernel
theorem dX7_isHunter_11 : decode cX7_isHunter 11 = .ok (.goto 4, 3) := by decide +kernel
theorem dX7_isHunter_14 : decode cX7_isHunter 14 = .ok (.iconst 0, 1) := by decide +kernel
theorem dX7_isHunter_15 : decode cX7_isHunter 15 = .ok (.ireturn, 1) := by decide +kernel
set_option maxRecDepth 20000 in
theorem ggX7_areTwoPosts_X7_postAt : GoodIn wsX7_areTwoPosts wsX7_postAt := goodIn_r _ [5, 6, 7, 8, 9, 10, 11, 12, 13, 14, 15, 16, 17, 18, 19, 20] (by decide +kernel) (by decide +kernel)
set_option maxRecDepth 20000 in
theorem gX7_areTwoPosts_X7_postAt : GoodIn wsX7_areTwoPosts (wsV RX7 84 RX7 yX7_postAt wsX7_postAt) := goodIn_app (goodIn_of _ (by decide +kernel)) ggX7_areTwoPosts_X7_postAt
theorem dX7_areTwoPosts_0 : decode cX7_areTwoPosts 0 = .ok (.iload_n 1, 1) := by decide +kernel
theorem dX7_areTwoPosts_1 : decode cX7_areTwoPosts 1 = .ok (.iload_n 2, 1) := by decide +kernel
theorem dX7_areTwoPosts_2 : decode cX7_areTwoPosts 2 = .ok (.if_icmp .eq 23, 3) := by decide +kernel
theorem dX7_areTwoPosts_5 : decode cX7_areTwoPosts 5 = .ok (.aload_n 0, 1) := by decide +kernel
theorem dX7_areTwoPosts_6 : decode cX7_areTwoPosts 6 = .ok (.iload_n 1, 1) := by decide +kernel
theorem dX7_areTwoPosts_7 : decode cX7_areTwoPosts 7 = .ok (.invokevirtual 84, 3) := by decide +kernel
theorem dX7_areTwoPosts_10 : decode cX7_areTwoPosts 10 = .ok (.ifnull 15, 3) := by decide +kernel
theorem dX7_areTwoPosts_13 : decode cX7_areTwoPosts 13 = .ok (.aload_n 0, 1) := by decide +kernel
theorem dX7_areTwoPosts_14 : decode cX7_areTwoPosts 14 = .ok (.iload_n 2, 1) := by decide +kernel
theorem dX7_areTwoPosts_15 : decode cX7_areTwoPosts 15 = .ok (.invokevirtual 84, 3) := by decide +kernel
theorem dX7_areTwoPosts_18 : decode cX7_areTwoPosts 18 = .ok (.ifnull 7, 3) := by decide +kernel
theorem dX7_areTwoPosts_21 : decode cX7_areTwoPosts 21 = .ok (.iconst 1, 1) := by decide +kernel
theorem dX7_areTwoPosts_22 : decode cX7_areTwoPosts 22 = .ok (.goto 4, 3) := by decide +kernel
theorem dX7_areTwoPosts_25 : decode cX7_areTwoPosts 25 = .ok (.iconst 0, 1) := by decide +kernel
theorem dX7_areTwoPosts_26 : decode cX7_areTwoPosts 26 = .ok (.ireturn, 1) := by decide +kernel
theorem dX7_postAt_0 : decode cX7_postAt 0 = .ok (.iload_n 1, 1) := by decide +kernel
theorem dX7_postAt_1 : decode cX7_postAt 1 = .ok (.ifCond .lt 18, 3) := by decide +kernel
theorem dX7_postAt_4 : decode cX7_postAt 4 = .ok (.iload_n 1, 1) := by decide +kernel
theorem dX7_postAt_5 : decode cX7_postAt 5 = .ok (.bipush 8, 2) := by decide +kernel
theorem dX7_postAt_7 : decode cX7_postAt 7 = .ok (.if_icmp .ge 12, 3) := by decide +kernel
theorem dX7_postAt_10 : decode cX7_postAt 10 = .ok (.aload_n 0, 1) := by decide +kernel
theorem dX7_postAt_11 : decode cX7_postAt 11 = .ok (.getfield 11, 3) := by decide +kernel
theorem dX7_postAt_14 : decode cX7_postAt 14 = .ok (.iload_n 1, 1) := by decide +kernel
theorem dX7_postAt_15 : decode cX7_postAt 15 = .ok (.aaload, 1) := by decide +kernel
theorem dX7_postAt_16 : decode cX7_postAt 16 = .ok (.goto 4, 3) := by decide +kernel
theorem dX7_postAt_19 : decode cX7_postAt 19 = .ok (.aconst_null, 1) := by decide +kernel
theorem dX7_postAt_20 : decode cX7_postAt 20 = .ok (.areturn, 1) := by decide +kernel
theorem dX7_wayAt_0 : decode cX7_wayAt 0 = .ok (.iload_n 1, 1) := by decide +kernel
theorem dX7_wayAt_1 : decode cX7_wayAt 1 = .ok (.ifCond .lt 18, 3) := by decide +kernel
theorem dX7_wayAt_4 : decode cX7_wayAt 4 = .ok (.iload_n 1, 1) := by decide +kernel
theorem dX7_wayAt_5 : decode cX7_wayAt 5 = .ok (.bipush 12, 2) := by decide +kernel
theorem dX7_wayAt_7 : decode cX7_wayAt 7 = .ok (.if_icmp .ge 12, 3) := by decide +kernel
theorem dX7_wayAt_10 : decode cX7_wayAt 10 = .ok (.aload_n 0, 1) := by decide +kernel
theorem dX7_wayAt_11 : decode cX7_wayAt 11 = .ok (.getfield 17, 3) := by decide +kernel
theorem dX7_wayAt_14 : decode cX7_wayAt 14 = .ok (.iload_n 1, 1) := by decide +kernel
theorem dX7_wayAt_15 : decode cX7_wayAt 15 = .ok (.aaload, 1) := by decide +kernel
theorem dX7_wayAt_16 : decode cX7_wayAt 16 = .ok (.goto 4, 3) := by decide +kernel
theorem dX7_wayAt_19 : decode cX7_wayAt 19 = .ok (.aconst_null, 1) := by decide +kernel
theorem dX7_wayAt_20 : decode cX7_wayAt 20 = .ok (.areturn, 1) := by decide +kernel
theorem dX7_canoeAt_0 : decode cX7_canoeAt 0 = .ok (.iload_n 1, 1) := by decide +kernel
theorem dX7_canoeAt_1 : decode cX7_canoeAt 1 = .ok (.ifCond .lt 18, 3) := by decide +kernel
theorem dX7_canoeAt_4 : decode cX7_canoeAt 4 = .ok (.iload_n 1, 1) := by decide +kernel
theorem dX7_canoeAt_5 : decode cX7_canoeAt 5 = .ok (.bipush 120, 2) := by decide +kernel
theorem dX7_canoeAt_7 : decode cX7_canoeAt 7 = .ok (.if_icmp .ge 12, 3) := by decide +kernel
theorem dX7_canoeAt_10 : decode cX7_canoeAt 10 = .ok (.aload_n 0, 1) := by decide +kernel
theorem dX7_canoeAt_11 : decode cX7_canoeAt 11 = .ok (.getfield 23, 3) := by decide +kernel
theorem dX7_canoeAt_14 : decode cX7_canoeAt 14 = .ok (.iload_n 1, 1) := by decide +kernel
theorem dX7_canoeAt_15 : decode cX7_canoeAt 15 = .ok (.aaload, 1) := by decide +kernel
theorem dX7_canoeAt_16 : decode cX7_canoeAt 16 = .ok (.goto 4, 3) := by decide +kernel
theorem dX7_canoeAt_19 : decode cX7_canoeAt 19 = .ok (.aconst_null, 1) := by decide +kernel
theorem dX7_canoeAt_20 : decode cX7_canoeAt 20 = .ok (.areturn, 1) := by decide +kernel
theorem dX7_letterAt_0 : decode cX7_letterAt 0 = .ok (.iload_n 1, 1) := by decide +kernel
theorem dX7_letterAt_1 : decode cX7_letterAt 1 = .ok (.ifCond .lt 19, 3) := by decide +kernel
theorem dX7_letterAt_4 : decode cX7_letterAt 4 = .ok (.iload_n 1, 1) := by decide +kernel
theorem dX7_letterAt_5 : decode cX7_letterAt 5 = .ok (.sipush 300, 3) := by decide +kernel
theorem dX7_letterAt_8 : decode cX7_letterAt 8 = .ok (.if_icmp .ge 12, 3) := by decide +kernel
theorem dX7_letterAt_11 : decode cX7_letterAt 11 = .ok (.aload_n 0, 1) := by decide +kernel
theorem dX7_letterAt_12 : decode cX7_letterAt 12 = .ok (.getfield 29, 3) := by decide +kernel
theorem dX7_letterAt_15 : decode cX7_letterAt 15 = .ok (.iload_n 1, 1) := by decide +kernel
theorem dX7_letterAt_16 : decode cX7_letterAt 16 = .ok (.aaload, 1) := by decide +kernel
theorem dX7_letterAt_17 : decode cX7_letterAt 17 = .ok (.goto 4, 3) := by decide +kernel
theorem dX7_letterAt_20 : decode cX7_letterAt 20 = .ok (.aconst_null, 1) := by decide +kernel
theorem dX7_letterAt_21 : decode cX7_letterAt 21 = .ok (.areturn, 1) := by decide +kernel
theorem dX8_init_0 : decode cX8_init 0 = .ok (.aload_n 0, 1) := by decide +kernel
theorem dX8_init_1 : decode cX8_init 1 = .ok (.invokespecial 1, 3) := by decide +kernel
theorem dX8_init_4 : decode cX8_init 4 = .ok (.aload_n 0, 1) := by decide +kernel
theorem dX8_init_5 : decode cX8_init 5 = .ok (.bipush 48, 2) := by decide +kernel
theorem dX8_init_7 : decode cX8_init 7 = .ok (.newarray .int, 2) := by decide +kernel
theorem dX8_init_9 : decode cX8_init 9 = .ok (.putfield 9, 3) := by decide +kernel
theorem dX8_init_12 : decode cX8_init 12 = .ok (.aload_n 0, 1) := by decide +kernel
theorem dX8_init_13 : decode cX8_init 13 = .ok (.bipush 48, 2) := by decide +kernel
theorem dX8_init_15 : decode cX8_init 15 = .ok (.newarray .int, 2) := by decide +kernel
theorem dX8_init_17 : decode cX8_init 17 = .ok (.putfield 13, 3) := by decide +kernel
theorem dX8_init_20 : decode cX8_init 20 = .ok (.aload_n 0, 1) := by decide +kernel
theorem dX8_init_21 : decode cX8_init 21 = .ok (.bipush 96, 2) := by decide +kernel
theorem dX8_init_23 : decode cX8_init 23 = .ok (.newarray .int, 2) := by decide +kernel
theorem dX8_init_25 : decode cX8_init 25 = .ok (.putfield 16, 3) := by decide +kernel
theorem dX8_init_28 : decode cX8_init 28 = .ok (.aload_n 0, 1) := by decide +kernel
theorem dX8_init_29 : decode cX8_init 29 = .ok (.bipush 12, 2) := by decide +kernel
theorem dX8_init_31 : decode cX8_init 31 = .ok (.newarray .int, 2) := by decide +kernel
theorem dX8_init_33 : decode cX8_init 33 = .ok (.putfield 19, 3) := by decide +kernel
theorem dX8_init_36 : decode cX8_init 36 = .ok (.aload_n 0, 1) := by decide +kernel
theorem dX8_init_37 : decode cX8_init 37 = .ok (.bipush 12, 2) := by decide +kernel
theorem dX8_init_39 : decode cX8_init 39 = .ok (.newarray .int, 2) := by decide +kernel
theorem dX8_init_41 : decode cX8_init 41 = .ok (.putfield 22, 3) := by decide +kernel
theorem dX8_init_44 : decode cX8_init 44 = .ok (.aload_n 0, 1) := by decide +kernel
theorem dX8_init_45 : decode cX8_init 45 = .ok (.bipush 12, 2) := by decide +kernel
theorem dX8_init_47 : decode cX8_init 47 = .ok (.newarray .int, 2) := by decide +kernel
theorem dX8_init_49 : decode cX8_init 49 = .ok (.putfield 25, 3) := by decide +kernel
theorem dX8_init_52 : decode cX8_init 52 = .ok (.aload_n 0, 1) := by decide +kernel
theorem dX8_init_53 : decode cX8_init 53 = .ok (.bipush 12, 2) := by decide +kernel
theorem dX8_init_55 : decode cX8_init 55 = .ok (.newarray .int, 2) := by decide +kernel
theorem dX8_init_57 : decode cX8_init 57 = .ok (.putfield 28, 3) := by decide +kernel
theorem dX8_init_60 : decode cX8_init 60 = .ok (.aload_n 0, 1) := by decide +kernel
theorem dX8_init_61 : decode cX8_init 61 = .ok (.bipush 12, 2) := by decide +kernel
theorem dX8_init_63 : decode cX8_init 63 = .ok (.newarray .int, 2) := by decide +kernel
theorem dX8_init_65 : decode cX8_init 65 = .ok (.putfield 31, 3) := by decide +kernel
theorem dX8_init_68 : decode cX8_init 68 = .ok (.aload_n 0, 1) := by decide +kernel
theorem dX8_init_69 : decode cX8_init 69 = .ok (.bipush 12, 2) := by decide +kernel
theorem dX8_init_71 : decode cX8_init 71 = .ok (.newarray .int, 2) := by decide +kernel
theorem dX8_init_73 : decode cX8_init 73 = .ok (.putfield 34, 3) := by decide +kernel
theorem dX8_init_76 : decode cX8_init 76 = .ok (.aload_n 0, 1) := by decide +kernel
theorem dX8_init_77 : decode cX8_init 77 = .ok (.bipush 6, 2) := by decide +kernel
theorem dX8_init_79 : decode cX8_init 79 = .ok (.newarray .int, 2) := by decide +kernel
theorem dX8_init_81 : decode cX8_init 81 = .ok (.putfield 37, 3) := by decide +kernel
theorem dX8_init_84 : decode cX8_init 84 = .ok (.aload_n 0, 1) := by decide +kernel
theorem dX8_init_85 : decode cX8_init 85 = .ok (.bipush 120, 2) := by decide +kernel
theorem dX8_init_87 : decode cX8_init 87 = .ok (.newarray .int, 2) := by decide +kernel
theorem dX8_init_89 : decode cX8_init 89 = .ok (.putfield 40, 3) := by decide +kernel
theorem dX8_init_92 : decode cX8_init 92 = .ok (.aload_n 0, 1) := by decide +kernel
theorem dX8_init_93 : decode cX8_init 93 = .ok (.bipush 120, 2) := by decide +kernel
theorem dX8_init_95 : decode cX8_init 95 = .ok (.newarray .int, 2) := by decide +kernel
theorem dX8_init_97 : decode cX8_init 97 = .ok (.putfield 43, 3) := by decide +kernel
theorem dX8_init_100 : decode cX8_init 100 = .ok (.aload_n 0, 1) := by decide +kernel
theorem dX8_init_101 : decode cX8_init 101 = .ok (.bipush 120, 2) := by decide +kernel
theorem dX8_init_103 : decode cX8_init 103 = .ok (.newarray .int, 2) := by decide +kernel
theorem dX8_init_105 : decode cX8_init 105 = .ok (.putfield 46, 3) := by decide +kernel
theorem dX8_init_108 : decode cX8_init 108 = .ok (.aload_n 0, 1) := by decide +kernel
theorem dX8_init_109 : decode cX8_init 109 = .ok (.bipush 120, 2) := by decide +kernel
theorem dX8_init_111 : decode cX8_init 111 = .ok (.newarray .int, 2) := by decide +kernel
theorem dX8_init_113 : decode cX8_init 113 = .ok (.putfield 49, 3) := by decide +kernel
theorem dX8_init_116 : decode cX8_init 116 = .ok (.aload_n 0, 1) := by decide +kernel
theorem dX8_init_117 : decode cX8_init 117 = .ok (.bipush 120, 2) := by decide +kernel
theorem dX8_init_119 : decode cX8_init 119 = .ok (.newarray .int, 2) := by decide +kernel
theorem dX8_init_121 : decode cX8_init 121 = .ok (.putfield 52, 3) := by decide +kernel
theorem dX8_init_124 : decode cX8_init 124 = .ok (.aload_n 0, 1) := by decide +kernel
theorem dX8_init_125 : decode cX8_init 125 = .ok (.bipush 120, 2) := by decide +kernel
theorem dX8_init_127 : decode cX8_init 127 = .ok (.newarray .int, 2) := by decide +kernel
theorem dX8_init_129 : decode cX8_init 129 = .ok (.putfield 55, 3) := by decide +kernel
theorem dX8_init_132 : decode cX8_init 132 = .ok (.aload_n 0, 1) := by decide +kernel
theorem dX8_init_133 : decode cX8_init 133 = .ok (.bipush 120, 2) := by decide +kernel
theorem dX8_init_135 : decode cX8_init 135 = .ok (.newarray .int, 2) := by decide +kernel
theorem dX8_init_137 : decode cX8_init 137 = .ok (.putfield 58, 3) := by decide +kernel
theorem dX8_init_140 : decode cX8_init 140 = .ok (.aload_n 0, 1) := by decide +kernel
theorem dX8_init_141 : decode cX8_init 141 = .ok (.bipush 120, 2) := by decide +kernel
theorem dX8_init_143 : decode cX8_init 143 = .ok (.newarray .int, 2) := by decide +kernel
theorem dX8_init_145 : decode cX8_init 145 = .ok (.putfield 61, 3) := by decide +kernel
end
section
theorem dX8_init_148 : decode cX8_init 148 = .ok (.aload_n 0, 1) := by decide +kernel
theorem dX8_init_149 : decode cX8_init 149 = .ok (.sipush 720, 3) := by decide +kernel
theorem dX8_init_152 : decode cX8_init 152 = .ok (.newarray .int, 2) := by decide +kernel
theorem dX8_init_154 : decode cX8_init 154 = .ok (.putfield 64, 3) := by decide +kernel
theorem dX8_init_157 : decode cX8_init 157 = .ok (.aload_n 0, 1) := by decide +kernel
theorem dX8_init_158 : decode cX8_init 158 = .ok (.sipush 720, 3) := by decide +kernel
theorem dX8_init_161 : decode cX8_init 161 = .ok (.newarray .int, 2) := by decide +kernel
theorem dX8_init_163 : decode cX8_init 163 = .ok (.putfield 67, 3) := by decide +kernel
theorem dX8_init_166 : decode cX8_init 166 = .ok (.aload_n 0, 1) := by decide +kernel
theorem dX8_init_167 : decode cX8_init 167 = .ok (.bipush 120, 2) := by decide +kernel
theorem dX8_init_169 : decode cX8_init 169 = .ok (.newarray .boolean, 2) := by decide +kernel
theorem dX8_init_171 : decode cX8_init 171 = .ok (.putfield 70, 3) := by decide +kernel
theorem dX8_init_174 : decode cX8_init 174 = .ok (.aload_n 0, 1) := by decide +kernel
theorem dX8_init_175 : decode cX8_init 175 = .ok (.sipush 300, 3) := by decide +kernel
theorem dX8_init_178 : decode cX8_init 178 = .ok (.newarray .int, 2) := by decide +kernel
theorem dX8_init_180 : decode cX8_init 180 = .ok (.putfield 74, 3) := by decide +kernel
theorem dX8_init_183 : decode cX8_init 183 = .ok (.aload_n 0, 1) := by decide +kernel
theorem dX8_init_184 : decode cX8_init 184 = .ok (.sipush 300, 3) := by decide +kernel
theorem dX8_init_187 : decode cX8_init 187 = .ok (.newarray .int, 2) := by decide +kernel
theorem dX8_init_189 : decode cX8_init 189 = .ok (.putfield 77, 3) := by decide +kernel
theorem dX8_init_192 : decode cX8_init 192 = .ok (.aload_n 0, 1) := by decide +kernel
theorem dX8_init_193 : decode cX8_init 193 = .ok (.sipush 300, 3) := by decide +kernel
theorem dX8_init_196 : decode cX8_init 196 = .ok (.newarray .int, 2) := by decide +kernel
theorem dX8_init_198 : decode cX8_init 198 = .ok (.putfield 80, 3) := by decide +kernel
theorem dX8_init_201 : decode cX8_init 201 = .ok (.aload_n 0, 1) := by decide +kernel
theorem dX8_init_202 : decode cX8_init 202 = .ok (.sipush 300, 3) := by decide +kernel
theorem dX8_init_205 : decode cX8_init 205 = .ok (.newarray .int, 2) := by decide +kernel
theorem dX8_init_207 : decode cX8_init 207 = .ok (.putfield 83, 3) := by decide +kernel
theorem dX8_init_210 : decode cX8_init 210 = .ok (.aload_n 0, 1) := by decide +kernel
theorem dX8_init_211 : decode cX8_init 211 = .ok (.sipush 300, 3) := by decide +kernel
theorem dX8_init_214 : decode cX8_init 214 = .ok (.newarray .int, 2) := by decide +kernel
theorem dX8_init_216 : decode cX8_init 216 = .ok (.putfield 86, 3) := by decide +kernel
theorem dX8_init_219 : decode cX8_init 219 = .ok (.aload_n 0, 1) := by decide +kernel
theorem dX8_init_220 : decode cX8_init 220 = .ok (.sipush 1800, 3) := by decide +kernel
theorem dX8_init_223 : decode cX8_init 223 = .ok (.newarray .int, 2) := by decide +kernel
theorem dX8_init_225 : decode cX8_init 225 = .ok (.putfield 89, 3) := by decide +kernel
theorem dX8_init_228 : decode cX8_init 228 = .ok (.aload_n 0, 1) := by decide +kernel
theorem dX8_init_229 : decode cX8_init 229 = .ok (.bipush 64, 2) := by decide +kernel
theorem dX8_init_231 : decode cX8_init 231 = .ok (.newarray .int, 2) := by decide +kernel
theorem dX8_init_233 : decode cX8_init 233 = .ok (.putfield 92, 3) := by decide +kernel
theorem dX8_init_236 : decode cX8_init 236 = .ok (.aload_n 0, 1) := by decide +kernel
theorem dX8_init_237 : decode cX8_init 237 = .ok (.bipush 126, 2) := by decide +kernel
theorem dX8_init_239 : decode cX8_init 239 = .ok (.newarray .int, 2) := by decide +kernel
theorem dX8_init_241 : decode cX8_init 241 = .ok (.putfield 95, 3) := by decide +kernel
theorem dX8_init_244 : decode cX8_init 244 = .ok (.aload_n 0, 1) := by decide +kernel
theorem dX8_init_245 : decode cX8_init 245 = .ok (.bipush 36, 2) := by decide +kernel
theorem dX8_init_247 : decode cX8_init 247 = .ok (.newarray .int, 2) := by decide +kernel
theorem dX8_init_249 : decode cX8_init 249 = .ok (.putfield 98, 3) := by decide +kernel
theorem dX8_init_252 : decode cX8_init 252 = .ok (.aload_n 0, 1) := by decide +kernel
theorem dX8_init_253 : decode cX8_init 253 = .ok (.bipush 8, 2) := by decide +kernel
theorem dX8_init_255 : decode cX8_init 255 = .ok (.newarray .int, 2) := by decide +kernel
theorem dX8_init_257 : decode cX8_init 257 = .ok (.putfield 101, 3) := by decide +kernel
theorem dX8_init_260 : decode cX8_init 260 = .ok (.iconst 0, 1) := by decide +kernel
theorem dX8_init_261 : decode cX8_init 261 = .ok (.istore_n 1, 1) := by decide +kernel
theorem dX8_init_262 : decode cX8_init 262 = .ok (.iload_n 1, 1) := by decide +kernel
theorem dX8_init_263 : decode cX8_init 263 = .ok (.bipush 64, 2) := by decide +kernel
theorem dX8_init_265 : decode cX8_init 265 = .ok (.if_icmp .ge 16, 3) := by decide +kernel
theorem dX8_init_268 : decode cX8_init 268 = .ok (.aload_n 0, 1) := by decide +kernel
theorem dX8_init_269 : decode cX8_init 269 = .ok (.getfield 92, 3) := by decide +kernel
theorem dX8_init_272 : decode cX8_init 272 = .ok (.iload_n 1, 1) := by decide +kernel
theorem dX8_init_273 : decode cX8_init 273 = .ok (.iconst (-1), 1) := by decide +kernel
theorem dX8_init_274 : decode cX8_init 274 = .ok (.iastore, 1) := by decide +kernel
theorem dX8_init_275 : decode cX8_init 275 = .ok (.iinc 1 1, 3) := by decide +kernel
theorem dX8_init_278 : decode cX8_init 278 = .ok (.goto (-16), 3) := by decide +kernel
theorem dX8_init_281 : decode cX8_init 281 = .ok (.iconst 0, 1) := by decide +kernel
theorem dX8_init_282 : decode cX8_init 282 = .ok (.istore_n 1, 1) := by decide +kernel
theorem dX8_init_283 : decode cX8_init 283 = .ok (.iload_n 1, 1) := by decide +kernel
theorem dX8_init_284 : decode cX8_init 284 = .ok (.bipush 48, 2) := by decide +kernel
theorem dX8_init_286 : decode cX8_init 286 = .ok (.if_icmp .ge 16, 3) := by decide +kernel
theorem dX8_init_289 : decode cX8_init 289 = .ok (.aload_n 0, 1) := by decide +kernel
theorem dX8_init_290 : decode cX8_init 290 = .ok (.getfield 13, 3) := by decide +kernel
theorem dX8_init_293 : decode cX8_init 293 = .ok (.iload_n 1, 1) := by decide +kernel
theorem dX8_init_294 : decode cX8_init 294 = .ok (.iconst 1, 1) := by decide +kernel
theorem dX8_init_295 : decode cX8_init 295 = .ok (.iastore, 1) := by decide +kernel
theorem dX8_init_296 : decode cX8_init 296 = .ok (.iinc 1 1, 3) := by decide +kernel
theorem dX8_init_299 : decode cX8_init 299 = .ok (.goto (-16), 3) := by decide +kernel
theorem dX8_init_302 : decode cX8_init 302 = .ok (.return_, 1) := by decide +kernel
theorem dX8_in_0 : decode cX8_in 0 = .ok (.iload_n 0, 1) := by decide +kernel
theorem dX8_in_1 : decode cX8_in 1 = .ok (.iload_n 1, 1) := by decide +kernel
theorem dX8_in_2 : decode cX8_in 2 = .ok (.if_icmp .lt 12, 3) := by decide +kernel
theorem dX8_in_5 : decode cX8_in 5 = .ok (.iload_n 0, 1) := by decide +kernel
theorem dX8_in_6 : decode cX8_in 6 = .ok (.iload_n 2, 1) := by decide +kernel
theorem dX8_in_7 : decode cX8_in 7 = .ok (.if_icmp .gt 7, 3) := by decide +kernel
theorem dX8_in_10 : decode cX8_in 10 = .ok (.iconst 1, 1) := by decide +kernel
theorem dX8_in_11 : decode cX8_in 11 = .ok (.goto 4, 3) := by decide +kernel
theorem dX8_in_14 : decode cX8_in 14 = .ok (.iconst 0, 1) := by decide +kernel
theorem dX8_in_15 : decode cX8_in 15 = .ok (.ireturn, 1) := by decide +kernel
set_option maxRecDepth 20000 in
theorem ggX8_isPost_X8_in : GoodIn wsX8_isPost wsX8_in := goodIn_r _ [5] (by decide +kernel) (by decide +kernel)
set_option maxRecDepth 20000 in
theorem gX8_isPost_X8_in : GoodIn wsX8_isPost (va_wsS RX8 108 yX8_in wsX8_in) := goodIn_app (goodIn_of _ (by decide +kernel)) ggX8_isPost_X8_in
theorem dX8_isPost_0 : decode cX8_isPost 0 = .ok (.iload_n 1, 1) := by decide +kernel
theorem dX8_isPost_1 : decode cX8_isPost 1 = .ok (.iconst 0, 1) := by decide +kernel
theorem dX8_isPost_2 : decode cX8_isPost 2 = .ok (.aload_n 0, 1) := by decide +kernel
theorem dX8_isPost_3 : decode cX8_isPost 3 = .ok (.getfield 104, 3) := by decide +kernel
theorem dX8_isPost_6 : decode cX8_isPost 6 = .ok (.iconst 1, 1) := by decide +kernel
theorem dX8_isPost_7 : decode cX8_isPost 7 = .ok (.isub, 1) := by decide +kernel
theorem dX8_isPost_8 : decode cX8_isPost 8 = .ok (.invokestatic 108, 3) := by decide +kernel
theorem dX8_isPost_11 : decode cX8_isPost 11 = .ok (.ireturn, 1) := by decide +kernel
set_option maxRecDepth 20000 in
theorem ggX8_isWare_X8_in : GoodIn wsX8_isWare wsX8_in := goodIn_r _ [4] (by decide +kernel) (by decide +kernel)
set_option maxRecDepth 20000 in
theorem gX8_isWare_X8_in : GoodIn wsX8_isWare (va_wsS RX8 108 yX8_in wsX8_in) := goodIn_app (goodIn_of _ (by decide +kernel)) ggX8_isWare_X8_in
theorem dX8_isWare_0 : decode cX8_isWare 0 = .ok (.iload_n 0, 1) := by decide +kernel
theorem dX8_isWare_1 : decode cX8_isWare 1 = .ok (.iconst 0, 1) := by decide +kernel
theorem dX8_isWare_2 : decode cX8_isWare 2 = .ok (.iconst 5, 1) := by decide +kernel
theorem dX8_isWare_3 : decode cX8_isWare 3 = .ok (.invokestatic 108, 3) := by decide +kernel
theorem dX8_isWare_6 : decode cX8_isWare 6 = .ok (.ireturn, 1) := by decide +kernel
set_option maxRecDepth 20000 in
theorem ggX8_isCanoe_X8_in : GoodIn wsX8_isCanoe wsX8_in := goodIn_r _ [5] (by decide +kernel) (by decide +kernel)
set_option maxRecDepth 20000 in
theorem gX8_isCanoe_X8_in : GoodIn wsX8_isCanoe (va_wsS RX8 108 yX8_in wsX8_in) := goodIn_app (goodIn_of _ (by decide +kernel)) ggX8_isCanoe_X8_in
theorem dX8_isCanoe_0 : decode cX8_isCanoe 0 = .ok (.iload_n 1, 1) := by decide +kernel
theorem dX8_isCanoe_1 : decode cX8_isCanoe 1 = .ok (.iconst 0, 1) := by decide +kernel
theorem dX8_isCanoe_2 : decode cX8_isCanoe 2 = .ok (.aload_n 0, 1) := by decide +kernel
theorem dX8_isCanoe_3 : decode cX8_isCanoe 3 = .ok (.getfield 112, 3) := by decide +kernel
theorem dX8_isCanoe_6 : decode cX8_isCanoe 6 = .ok (.iconst 1, 1) := by decide +kernel
theorem dX8_isCanoe_7 : decode cX8_isCanoe 7 = .ok (.isub, 1) := by decide +kernel
theorem dX8_isCanoe_8 : decode cX8_isCanoe 8 = .ok (.invokestatic 108, 3) := by decide +kernel
theorem dX8_isCanoe_11 : decode cX8_isCanoe 11 = .ok (.ireturn, 1) := by decide +kernel
theorem dX8_post_0 : decode cX8_post 0 = .ok (.aload_n 0, 1) := by decide +kernel
theorem dX8_post_1 : decode cX8_post 1 = .ok (.getfield 104, 3) := by decide +kernel
theorem dX8_post_4 : decode cX8_post 4 = .ok (.bipush 8, 2) := by decide +kernel
theorem dX8_post_6 : decode cX8_post 6 = .ok (.if_icmp .ne 5, 3) := by decide +kernel
theorem dX8_post_9 : decode cX8_post 9 = .ok (.iconst (-1), 1) := by decide +kernel
theorem dX8_post_10 : decode cX8_post 10 = .ok (.ireturn, 1) := by decide +kernel
theorem dX8_post_11 : decode cX8_post 11 = .ok (.aload_n 0, 1) := by decide +kernel
theorem dX8_post_12 : decode cX8_post 12 = .ok (.dup, 1) := by decide +kernel
theorem dX8_post_13 : decode cX8_post 13 = .ok (.getfield 104, 3) := by decide +kernel
theorem dX8_post_16 : decode cX8_post 16 = .ok (.iconst 1, 1) := by decide +kernel
theorem dX8_post_17 : decode cX8_post 17 = .ok (.iadd, 1) := by decide +kernel
theorem dX8_post_18 : decode cX8_post 18 = .ok (.putfield 104, 3) := by decide +kernel
theorem dX8_post_21 : decode cX8_post 21 = .ok (.aload_n 0, 1) := by decide +kernel
theorem dX8_post_22 : decode cX8_post 22 = .ok (.getfield 104, 3) := by decide +kernel
theorem dX8_post_25 : decode cX8_post 25 = .ok (.iconst 1, 1) := by decide +kernel
theorem dX8_post_26 : decode cX8_post 26 = .ok (.isub, 1) := by decide +kernel
theorem dX8_post_27 : decode cX8_post 27 = .ok (.ireturn, 1) := by decide +kernel
theorem dX8_between_0 : decode cX8_between 0 = .ok (.iconst 0, 1) := by decide +kernel
theorem dX8_between_1 : decode cX8_between 1 = .ok (.istore_n 3, 1) := by decide +kernel
theorem dX8_between_2 : decode cX8_between 2 = .ok (.iload_n 3, 1) := by decide +kernel
theorem dX8_between_3 : decode cX8_between 3 = .ok (.aload_n 0, 1) := by decide +kernel
theorem dX8_between_4 : decode cX8_between 4 = .ok (.getfield 115, 3) := by decide +kernel
theorem dX8_between_7 : decode cX8_between 7 = .ok (.if_icmp .ge 51, 3) := by decide +kernel
theorem dX8_between_10 : decode cX8_between 10 = .ok (.aload_n 0, 1) := by decide +kernel
theorem dX8_between_11 : decode cX8_between 11 = .ok (.getfield 19, 3) := by decide +kernel
theorem dX8_between_14 : decode cX8_between 14 = .ok (.iload_n 3, 1) := by decide +kernel
theorem dX8_between_15 : decode cX8_between 15 = .ok (.iaload, 1) := by decide +kernel
theorem dX8_between_16 : decode cX8_between 16 = .ok (.iload_n 1, 1) := by decide +kernel
theorem dX8_between_17 : decode cX8_between 17 = .ok (.if_icmp .ne 13, 3) := by decide +kernel
theorem dX8_between_20 : decode cX8_between 20 = .ok (.aload_n 0, 1) := by decide +kernel
theorem dX8_between_21 : decode cX8_between 21 = .ok (.getfield 22, 3) := by decide +kernel
theorem dX8_between_24 : decode cX8_between 24 = .ok (.iload_n 3, 1) := by decide +kernel
theorem dX8_between_25 : decode cX8_between 25 = .ok (.iaload, 1) := by decide +kernel
theorem dX8_between_26 : decode cX8_between 26 = .ok (.iload_n 2, 1) := by decide +kernel
theorem dX8_between_27 : decode cX8_between 27 = .ok (.if_icmp .eq 23, 3) := by decide +kernel
theorem dX8_between_30 : decode cX8_between 30 = .ok (.aload_n 0, 1) := by decide +kernel
theorem dX8_between_31 : decode cX8_between 31 = .ok (.getfield 19, 3) := by decide +kernel
theorem dX8_between_34 : decode cX8_between 34 = .ok (.iload_n 3, 1) := by decide +kernel
theorem dX8_between_35 : decode cX8_between 35 = .ok (.iaload, 1) := by decide +kernel
theorem dX8_between_36 : decode cX8_between 36 = .ok (.iload_n 2, 1) := by decide +kernel
theorem dX8_between_37 : decode cX8_between 37 = .ok (.if_icmp .ne 15, 3) := by decide +kernel
theorem dX8_between_40 : decode cX8_between 40 = .ok (.aload_n 0, 1) := by decide +kernel
theorem dX8_between_41 : decode cX8_between 41 = .ok (.getfield 22, 3) := by decide +kernel
theorem dX8_between_44 : decode cX8_between 44 = .ok (.iload_n 3, 1) := by decide +kernel
theorem dX8_between_45 : decode cX8_between 45 = .ok (.iaload, 1) := by decide +kernel
theorem dX8_between_46 : decode cX8_between 46 = .ok (.iload_n 1, 1) := by decide +kernel
theorem dX8_between_47 : decode cX8_between 47 = .ok (.if_icmp .ne 5, 3) := by decide +kernel
theorem dX8_between_50 : decode cX8_between 50 = .ok (.iload_n 3, 1) := by decide +kernel
theorem dX8_between_51 : decode cX8_between 51 = .ok (.ireturn, 1) := by decide +kernel
theorem dX8_between_52 : decode cX8_between 52 = .ok (.iinc 3 1, 3) := by decide +kernel
theorem dX8_between_55 : decode cX8_between 55 = .ok (.goto (-53), 3) := by decide +kernel
theorem dX8_between_58 : decode cX8_between 58 = .ok (.iconst (-1), 1) := by decide +kernel
theorem dX8_between_59 : decode cX8_between 59 = .ok (.ireturn, 1) := by decide +kernel
set_option maxRecDepth 20000 in
theorem ggX8_way_X8_in : GoodIn wsX8_way wsX8_in := goodIn_r _ [12] (by decide +kernel) (by decide +kernel)
set_option maxRecDepth 20000 in
theorem gX8_way_X8_in : GoodIn wsX8_way (va_wsS RX8 108 yX8_in wsX8_in) := goodIn_app (goodIn_of _ (by decide +kernel)) ggX8_way_X8_in
set_option maxRecDepth 20000 in
theorem ggX8_way_X8_isPost : GoodIn wsX8_way wsX8_isPost := goodIn_r _ [16, 17, 9, 10, 11, 12, 22, 23, 24, 25, 26, 27, 28, 29, 30, 31, 32, 33, 34, 35, 36, 37, 38, 39, 40, 41, 42, 43, 44, 45, 46, 47, 48, 49, 50, 51, 52, 53, 54, 55, 56, 57, 58] (by decide +kernel) (by decide +kernel)
set_option maxRecDepth 20000 in
theorem gX8_way_X8_isPost : GoodIn wsX8_way (wsV RX8 119 RX8 yX8_isPost wsX8_isPost) := goodIn_app (goodIn_of _ (by decide +kernel)) ggX8_way_X8_isPost
set_option maxRecDepth 20000 in
theorem ggX8_way_X8_between : GoodIn wsX8_way wsX8_between := goodIn_r _ [21, 2, 3, 4, 22, 23, 24, 25, 26, 27, 28, 29, 30, 31, 32, 33, 34, 35, 36, 37, 38, 39, 40, 41, 42, 43, 44, 45, 46, 47, 48, 49, 50, 51, 52, 53, 54, 55, 56, 57, 58] (by decide +kernel) (by decide +kernel)
set_option maxRecDepth 20000 in
theorem gX8_way_X8_between : GoodIn wsX8_way (wsV RX8 123 RX8 yX8_between wsX8_between) := goodIn_app (goodIn_of _ (by decide +kernel)) ggX8_way_X8_between
theorem dX8_way_0 : decode cX8_way 0 = .ok (.iload_n 3, 1) := by decide +kernel
theorem dX8_way_1 : decode cX8_way 1 = .ok (.ldc 118, 2) := by decide +kernel
theorem dX8_way_3 : decode cX8_way 3 = .ok (.idiv, 1) := by decide +kernel
theorem dX8_way_4 : decode cX8_way 4 = .ok (.istore 5, 2) := by decide +kernel
theorem dX8_way_6 : decode cX8_way 6 = .ok (.iload_n 3, 1) := by decide +kernel
theorem dX8_way_7 : decode cX8_way 7 = .ok (.sipush 1000, 3) := by decide +kernel
theorem dX8_way_10 : decode cX8_way 10 = .ok (.idiv, 1) := by decide +kernel
theorem dX8_way_11 : decode cX8_way 11 = .ok (.sipush 1000, 3) := by decide +kernel
theorem dX8_way_14 : decode cX8_way 14 = .ok (.irem, 1) := by decide +kernel
theorem dX8_way_15 : decode cX8_way 15 = .ok (.istore 6, 2) := by decide +kernel
theorem dX8_way_17 : decode cX8_way 17 = .ok (.iload_n 3, 1) := by decide +kernel
theorem dX8_way_18 : decode cX8_way 18 = .ok (.sipush 1000, 3) := by decide +kernel
theorem dX8_way_21 : decode cX8_way 21 = .ok (.irem, 1) := by decide +kernel
theorem dX8_way_22 : decode cX8_way 22 = .ok (.istore 7, 2) := by decide +kernel
theorem dX8_way_24 : decode cX8_way 24 = .ok (.iload_n 3, 1) := by decide +kernel
theorem dX8_way_25 : decode cX8_way 25 = .ok (.ifCond .lt 39, 3) := by decide +kernel
theorem dX8_way_28 : decode cX8_way 28 = .ok (.iload 5, 2) := by decide +kernel
theorem dX8_way_30 : decode cX8_way 30 = .ok (.iconst 1, 1) := by decide +kernel
theorem dX8_way_31 : decode cX8_way 31 = .ok (.bipush 40, 2) := by decide +kernel
theorem dX8_way_33 : decode cX8_way 33 = .ok (.invokestatic 108, 3) := by decide +kernel
theorem dX8_way_36 : decode cX8_way 36 = .ok (.ifCond .eq 28, 3) := by decide +kernel
theorem dX8_way_39 : decode cX8_way 39 = .ok (.iload 6, 2) := by decide +kernel
theorem dX8_way_41 : decode cX8_way 41 = .ok (.iconst 0, 1) := by decide +kernel
theorem dX8_way_42 : decode cX8_way 42 = .ok (.sipush 364, 3) := by decide +kernel
theorem dX8_way_45 : decode cX8_way 45 = .ok (.invokestatic 108, 3) := by decide +kernel
theorem dX8_way_48 : decode cX8_way 48 = .ok (.ifCond .eq 16, 3) := by decide +kernel
theorem dX8_way_51 : decode cX8_way 51 = .ok (.iload 7, 2) := by decide +kernel
theorem dX8_way_53 : decode cX8_way 53 = .ok (.iload 6, 2) := by decide +kernel
theorem dX8_way_55 : decode cX8_way 55 = .ok (.sipush 364, 3) := by decide +kernel
theorem dX8_way_58 : decode cX8_way 58 = .ok (.invokestatic 108, 3) := by decide +kernel
theorem dX8_way_61 : decode cX8_way 61 = .ok (.ifCond .ne 5, 3) := by decide +kernel
theorem dX8_way_64 : decode cX8_way 64 = .ok (.iconst (-1), 1) := by decide +kernel
theorem dX8_way_65 : decode cX8_way 65 = .ok (.ireturn, 1) := by decide +kernel
theorem dX8_way_66 : decode cX8_way 66 = .ok (.aload_n 0, 1) := by decide +kernel
theorem dX8_way_67 : decode cX8_way 67 = .ok (.iload_n 1, 1) := by decide +kernel
theorem dX8_way_68 : decode cX8_way 68 = .ok (.invokevirtual 119, 3) := by decide +kernel
theorem dX8_way_71 : decode cX8_way 71 = .ok (.ifCond .eq 47, 3) := by decide +kernel
theorem dX8_way_74 : decode cX8_way 74 = .ok (.aload_n 0, 1) := by decide +kernel
theorem dX8_way_75 : decode cX8_way 75 = .ok (.iload_n 2, 1) := by decide +kernel
theorem dX8_way_76 : decode cX8_way 76 = .ok (.invokevirtual 119, 3) := by decide +kernel
theorem dX8_way_79 : decode cX8_way 79 = .ok (.ifCond .eq 39, 3) := by decide +kernel
theorem dX8_way_82 : decode cX8_way 82 = .ok (.iload_n 1, 1) := by decide +kernel
theorem dX8_way_83 : decode cX8_way 83 = .ok (.iload_n 2, 1) := by decide +kernel
theorem dX8_way_84 : decode cX8_way 84 = .ok (.if_icmp .eq 34, 3) := by decide +kernel
theorem dX8_way_87 : decode cX8_way 87 = .ok (.aload_n 0, 1) := by decide +kernel
theorem dX8_way_88 : decode cX8_way 88 = .ok (.iload_n 1, 1) := by decide +kernel
theorem dX8_way_89 : decode cX8_way 89 = .ok (.iload_n 2, 1) := by decide +kernel
theorem dX8_way_90 : decode cX8_way 90 = .ok (.invokevirtual 123, 3) := by decide +kernel
theorem dX8_way_93 : decode cX8_way 93 = .ok (.iconst (-1), 1) := by decide +kernel
theorem dX8_way_94 : decode cX8_way 94 = .ok (.if_icmp .ne 24, 3) := by decide +kernel
theorem dX8_way_97 : decode cX8_way 97 = .ok (.iload 4, 2) := by decide +kernel
theorem dX8_way_99 : decode cX8_way 99 = .ok (.iconst 1, 1) := by decide +kernel
theorem dX8_way_100 : decode cX8_way 100 = .ok (.sipush 500, 3) := by decide +kernel
theorem dX8_way_103 : decode cX8_way 103 = .ok (.invokestatic 108, 3) := by decide +kernel
theorem dX8_way_106 : decode cX8_way 106 = .ok (.ifCond .eq 12, 3) := by decide +kernel
theorem dX8_way_109 : decode cX8_way 109 = .ok (.aload_n 0, 1) := by decide +kernel
theorem dX8_way_110 : decode cX8_way 110 = .ok (.getfield 115, 3) := by decide +kernel
theorem dX8_way_113 : decode cX8_way 113 = .ok (.bipush 12, 2) := by decide +kernel
theorem dX8_way_115 : decode cX8_way 115 = .ok (.if_icmp .ne 5, 3) := by decide +kernel
theorem dX8_way_118 : decode cX8_way 118 = .ok (.iconst (-1), 1) := by decide +kernel
theorem dX8_way_119 : decode cX8_way 119 = .ok (.ireturn, 1) := by decide +kernel
theorem dX8_way_120 : decode cX8_way 120 = .ok (.aload_n 0, 1) := by decide +kernel
theorem dX8_way_121 : decode cX8_way 121 = .ok (.getfield 19, 3) := by decide +kernel
theorem dX8_way_124 : decode cX8_way 124 = .ok (.aload_n 0, 1) := by decide +kernel
theorem dX8_way_125 : decode cX8_way 125 = .ok (.getfield 115, 3) := by decide +kernel
theorem dX8_way_128 : decode cX8_way 128 = .ok (.iload_n 1, 1) := by decide +kernel
theorem dX8_way_129 : decode cX8_way 129 = .ok (.iastore, 1) := by decide +kernel
theorem dX8_way_130 : decode cX8_way 130 = .ok (.aload_n 0, 1) := by decide +kernel
theorem dX8_way_131 : decode cX8_way 131 = .ok (.getfield 22, 3) := by decide +kernel
theorem dX8_way_134 : decode cX8_way 134 = .ok (.aload_n 0, 1) := by decide +kernel
theorem dX8_way_135 : decode cX8_way 135 = .ok (.getfield 115, 3) := by decide +kernel
theorem dX8_way_138 : decode cX8_way 138 = .ok (.iload_n 2, 1) := by decide +kernel
theorem dX8_way_139 : decode cX8_way 139 = .ok (.iastore, 1) := by decide +kernel
theorem dX8_way_140 : decode cX8_way 140 = .ok (.aload_n 0, 1) := by decide +kernel
theorem dX8_way_141 : decode cX8_way 141 = .ok (.getfield 25, 3) := by decide +kernel
theorem dX8_way_144 : decode cX8_way 144 = .ok (.aload_n 0, 1) := by decide +kernel
theorem dX8_way_145 : decode cX8_way 145 = .ok (.getfield 115, 3) := by decide +kernel
theorem dX8_way_148 : decode cX8_way 148 = .ok (.iload 5, 2) := by decide +kernel
theorem dX8_way_150 : decode cX8_way 150 = .ok (.iastore, 1) := by decide +kernel
theorem dX8_way_151 : decode cX8_way 151 = .ok (.aload_n 0, 1) := by decide +kernel
theorem dX8_way_152 : decode cX8_way 152 = .ok (.getfield 28, 3) := by decide +kernel
theorem dX8_way_155 : decode cX8_way 155 = .ok (.aload_n 0, 1) := by decide +kernel
theorem dX8_way_156 : decode cX8_way 156 = .ok (.getfield 115, 3) := by decide +kernel
theorem dX8_way_159 : decode cX8_way 159 = .ok (.iload 6, 2) := by decide +kernel
theorem dX8_way_161 : decode cX8_way 161 = .ok (.iastore, 1) := by decide +kernel
theorem dX8_way_162 : decode cX8_way 162 = .ok (.aload_n 0, 1) := by decide +kernel
theorem dX8_way_163 : decode cX8_way 163 = .ok (.getfield 31, 3) := by decide +kernel
theorem dX8_way_166 : decode cX8_way 166 = .ok (.aload_n 0, 1) := by decide +kernel
theorem dX8_way_167 : decode cX8_way 167 = .ok (.getfield 115, 3) := by decide +kernel
theorem dX8_way_170 : decode cX8_way 170 = .ok (.iload 7, 2) := by decide +kernel
theorem dX8_way_172 : decode cX8_way 172 = .ok (.iastore, 1) := by decide +kernel
theorem dX8_way_173 : decode cX8_way 173 = .ok (.aload_n 0, 1) := by decide +kernel
theorem dX8_way_174 : decode cX8_way 174 = .ok (.getfield 34, 3) := by decide +kernel
theorem dX8_way_177 : decode cX8_way 177 = .ok (.aload_n 0, 1) := by decide +kernel
theorem dX8_way_178 : decode cX8_way 178 = .ok (.getfield 115, 3) := by decide +kernel
theorem dX8_way_181 : decode cX8_way 181 = .ok (.iload 4, 2) := by decide +kernel
theorem dX8_way_183 : decode cX8_way 183 = .ok (.iastore, 1) := by decide +kernel
theorem dX8_way_184 : decode cX8_way 184 = .ok (.aload_n 0, 1) := by decide +kernel
theorem dX8_way_185 : decode cX8_way 185 = .ok (.dup, 1) := by decide +kernel
theorem dX8_way_186 : decode cX8_way 186 = .ok (.getfield 115, 3) := by decide +kernel
theorem dX8_way_189 : decode cX8_way 189 = .ok (.iconst 1, 1) := by decide +kernel
theorem dX8_way_190 : decode cX8_way 190 = .ok (.iadd, 1) := by decide +kernel
theorem dX8_way_191 : decode cX8_way 191 = .ok (.putfield 115, 3) := by decide +kernel
theorem dX8_way_194 : decode cX8_way 194 = .ok (.aload_n 0, 1) := by decide +kernel
theorem dX8_way_195 : decode cX8_way 195 = .ok (.getfield 115, 3) := by decide +kernel
theorem dX8_way_198 : decode cX8_way 198 = .ok (.iconst 1, 1) := by decide +kernel
theorem dX8_way_199 : decode cX8_way 199 = .ok (.isub, 1) := by decide +kernel
theorem dX8_way_200 : decode cX8_way 200 = .ok (.ireturn, 1) := by decide +kernel
set_option maxRecDepth 20000 in
theorem ggX8_isOpen_X8_in : GoodIn wsX8_isOpen wsX8_in := goodIn_r _ [6] (by decide +kernel) (by decide +kernel)
set_option maxRecDepth 20000 in
theorem gX8_isOpen_X8_in : GoodIn wsX8_isOpen (va_wsS RX8 108 yX8_in wsX8_in) := goodIn_app (goodIn_of _ (by decide +kernel)) ggX8_isOpen_X8_in
theorem dX8_isOpen_0 : decode cX8_isOpen 0 = .ok (.iload_n 2, 1) := by decide +kernel
theorem dX8_isOpen_1 : decode cX8_isOpen 1 = .ok (.sipush 365, 3) := by decide +kernel
theorem dX8_isOpen_4 : decode cX8_isOpen 4 = .ok (.irem, 1) := by decide +kernel
theorem dX8_isOpen_5 : decode cX8_isOpen 5 = .ok (.aload_n 0, 1) := by decide +kernel
theorem dX8_isOpen_6 : decode cX8_isOpen 6 = .ok (.getfield 28, 3) := by decide +kernel
theorem dX8_isOpen_9 : decode cX8_isOpen 9 = .ok (.iload_n 1, 1) := by decide +kernel
theorem dX8_isOpen_10 : decode cX8_isOpen 10 = .ok (.iaload, 1) := by decide +kernel
theorem dX8_isOpen_11 : decode cX8_isOpen 11 = .ok (.aload_n 0, 1) := by decide +kernel
theorem dX8_isOpen_12 : decode cX8_isOpen 12 = .ok (.getfield 31, 3) := by decide +kernel
theorem dX8_isOpen_15 : decode cX8_isOpen 15 = .ok (.iload_n 1, 1) := by decide +kernel
theorem dX8_isOpen_16 : decode cX8_isOpen 16 = .ok (.iaload, 1) := by decide +kernel
theorem dX8_isOpen_17 : decode cX8_isOpen 17 = .ok (.invokestatic 108, 3) := by decide +kernel
theorem dX8_isOpen_20 : decode cX8_isOpen 20 = .ok (.ireturn, 1) := by decide +kernel
theorem dX8_stored_0 : decode cX8_stored 0 = .ok (.aload_n 0, 1) := by decide +kernel
theorem dX8_stored_1 : decode cX8_stored 1 = .ok (.getfield 9, 3) := by decide +kernel
theorem dX8_stored_4 : decode cX8_stored 4 = .ok (.bipush 6, 2) := by decide +kernel
theorem dX8_stored_6 : decode cX8_stored 6 = .ok (.iload_n 1, 1) := by decide +kernel
theorem dX8_stored_7 : decode cX8_stored 7 = .ok (.imul, 1) := by decide +kernel
theorem dX8_stored_8 : decode cX8_stored 8 = .ok (.iload_n 2, 1) := by decide +kernel
theorem dX8_stored_9 : decode cX8_stored 9 = .ok (.iadd, 1) := by decide +kernel
theorem dX8_stored_10 : decode cX8_stored 10 = .ok (.iaload, 1) := by decide +kernel
theorem dX8_stored_11 : decode cX8_stored 11 = .ok (.ireturn, 1) := by decide +kernel
theorem dX8_sums_0 : decode cX8_sums 0 = .ok (.aload_n 0, 1) := by decide +kernel
theorem dX8_sums_1 : decode cX8_sums 1 = .ok (.getfield 98, 3) := by decide +kernel
theorem dX8_sums_4 : decode cX8_sums 4 = .ok (.bipush 6, 2) := by decide +kernel
theorem dX8_sums_6 : decode cX8_sums 6 = .ok (.iload_n 1, 1) := by decide +kernel
theorem dX8_sums_7 : decode cX8_sums 7 = .ok (.imul, 1) := by decide +kernel
theorem dX8_sums_8 : decode cX8_sums 8 = .ok (.iload_n 2, 1) := by decide +kernel
theorem dX8_sums_9 : decode cX8_sums 9 = .ok (.iadd, 1) := by decide +kernel
theorem dX8_sums_10 : decode cX8_sums 10 = .ok (.dup2, 1) := by decide +kernel
theorem dX8_sums_11 : decode cX8_sums 11 = .ok (.iaload, 1) := by decide +kernel
theorem dX8_sums_12 : decode cX8_sums 12 = .ok (.iload_n 3, 1) := by decide +kernel
theorem dX8_sums_13 : decode cX8_sums 13 = .ok (.iadd, 1) := by decide +kernel
theorem dX8_sums_14 : decode cX8_sums 14 = .ok (.iastore, 1) := by decide +kernel
theorem dX8_sums_15 : decode cX8_sums 15 = .ok (.return_, 1) := by decide +kernel
set_option maxRecDepth 20000 in
theorem ggX8_store_X8_isPost : GoodIn wsX8_store wsX8_isPost := goodIn_r _ [7, 8, 9, 10, 6, 11, 24, 25, 26, 27, 28, 29, 30, 31, 32, 33, 34, 35, 36, 37, 38, 39, 40, 41, 42, 43, 44, 45, 46, 47, 48, 49, 50, 51, 52, 53, 54, 55, 56, 57, 58, 59, 60] (by decide +kernel) (by decide +kernel)
set_option maxRecDepth 20000 in
theorem gX8_store_X8_isPost : GoodIn wsX8_store (wsV RX8 119 RX8 yX8_isPost wsX8_isPost) := goodIn_app (goodIn_of _ (by decide +kernel)) ggX8_store_X8_isPost
set_option maxRecDepth 20000 in
theorem ggX8_store_X8_isWare : GoodIn wsX8_store wsX8_isWare := goodIn_r _ [14, 9, 10, 6, 11] (by decide +kernel) (by decide +kernel)
set_option maxRecDepth 20000 in
theorem gX8_store_X8_isWare : GoodIn wsX8_store (va_wsS RX8 127 yX8_isWare wsX8_isWare) := goodIn_app (goodIn_of _ (by decide +kernel)) ggX8_store_X8_isWare
set_option maxRecDepth 20000 in
theorem ggX8_store_X8_in : GoodIn wsX8_store wsX8_in := goodIn_r _ [11] (by decide +kernel) (by decide +kernel)
set_option maxRecDepth 20000 in
theorem gX8_store_X8_in : GoodIn wsX8_store (va_wsS RX8 108 yX8_in wsX8_in) := goodIn_app (goodIn_of _ (by decide +kernel)) ggX8_store_X8_in
set_option maxRecDepth 20000 in
theorem ggX8_store_X8_stored : GoodIn wsX8_store wsX8_stored := goodIn_r _ [18, 2, 24, 25, 26, 27, 28, 29, 30, 31, 32, 33, 34, 35, 36, 37, 38, 39, 40, 41, 42, 43, 44, 45, 46, 47, 48, 49, 50, 51, 52, 53, 54, 55, 56, 57, 58, 59, 60] (by decide +kernel) (by decide +kernel)
set_option maxRecDepth 20000 in
theorem gX8_store_X8_stored : GoodIn wsX8_store (wsV RX8 130 RX8 yX8_stored wsX8_stored) := goodIn_app (goodIn_of _ (by decide +kernel)) ggX8_store_X8_stored
set_option maxRecDepth 20000 in
theorem ggX8_store_X8_sums : GoodIn wsX8_store wsX8_sums := goodIn_r _ [22, 23, 24, 25, 26, 27, 28, 29, 30, 31, 32, 33, 34, 35, 36, 37, 38, 39, 40, 41, 42, 43, 44, 45, 46, 47, 48, 49, 50, 51, 52, 53, 54, 55, 56, 57, 58, 59, 60] (by decide +kernel) (by decide +kernel)
set_option maxRecDepth 20000 in
theorem gX8_store_X8_sums : GoodIn wsX8_store (wsV RX8 134 RX8 yX8_sums wsX8_sums) := goodIn_app (goodIn_of _ (by decide +kernel)) ggX8_store_X8_sums
theorem dX8_store_0 : decode cX8_store 0 = .ok (.aload_n 0, 1) := by decide +kernel
theorem dX8_store_1 : decode cX8_store 1 = .ok (.iload_n 1, 1) := by decide +kernel
theorem dX8_store_2 : decode cX8_store 2 = .ok (.invokevirtual 119, 3) := by decide +kernel
theorem dX8_store_5 : decode cX8_store 5 = .ok (.ifCond .eq 34, 3) := by decide +kernel
theorem dX8_store_8 : decode cX8_store 8 = .ok (.iload_n 2, 1) := by decide +kernel
theorem dX8_store_9 : decode cX8_store 9 = .ok (.invokestatic 127, 3) := by decide +kernel
theorem dX8_store_12 : decode cX8_store 12 = .ok (.ifCond .eq 27, 3) := by decide +kernel
theorem dX8_store_15 : decode cX8_store 15 = .ok (.iload_n 3, 1) := by decide +kernel
theorem dX8_store_16 : decode cX8_store 16 = .ok (.iconst 1, 1) := by decide +kernel
theorem dX8_store_17 : decode cX8_store 17 = .ok (.sipush 10000, 3) := by decide +kernel
theorem dX8_store_20 : decode cX8_store 20 = .ok (.invokestatic 108, 3) := by decide +kernel
theorem dX8_store_23 : decode cX8_store 23 = .ok (.ifCond .eq 16, 3) := by decide +kernel
theorem dX8_store_26 : decode cX8_store 26 = .ok (.aload_n 0, 1) := by decide +kernel
theorem dX8_store_27 : decode cX8_store 27 = .ok (.iload_n 1, 1) := by decide +kernel
theorem dX8_store_28 : decode cX8_store 28 = .ok (.iload_n 2, 1) := by decide +kernel
theorem dX8_store_29 : decode cX8_store 29 = .ok (.invokevirtual 130, 3) := by decide +kernel
theorem dX8_store_32 : decode cX8_store 32 = .ok (.iload_n 3, 1) := by decide +kernel
theorem dX8_store_33 : decode cX8_store 33 = .ok (.iadd, 1) := by decide +kernel
theorem dX8_store_34 : decode cX8_store 34 = .ok (.ldc 133, 2) := by decide +kernel
theorem dX8_store_36 : decode cX8_store 36 = .ok (.if_icmp .le 5, 3) := by decide +kernel
theorem dX8_store_39 : decode cX8_store 39 = .ok (.iconst (-1), 1) := by decide +kernel
theorem dX8_store_40 : decode cX8_store 40 = .ok (.ireturn, 1) := by decide +kernel
theorem dX8_store_41 : decode cX8_store 41 = .ok (.aload_n 0, 1) := by decide +kernel
theorem dX8_store_42 : decode cX8_store 42 = .ok (.getfield 9, 3) := by decide +kernel
theorem dX8_store_45 : decode cX8_store 45 = .ok (.bipush 6, 2) := by decide +kernel
theorem dX8_store_47 : decode cX8_store 47 = .ok (.iload_n 1, 1) := by decide +kernel
theorem dX8_store_48 : decode cX8_store 48 = .ok (.imul, 1) := by decide +kernel
theorem dX8_store_49 : decode cX8_store 49 = .ok (.iload_n 2, 1) := by decide +kernel
theorem dX8_store_50 : decode cX8_store 50 = .ok (.iadd, 1) := by decide +kernel
theorem dX8_store_51 : decode cX8_store 51 = .ok (.dup2, 1) := by decide +kernel
theorem dX8_store_52 : decode cX8_store 52 = .ok (.iaload, 1) := by decide +kernel
theorem dX8_store_53 : decode cX8_store 53 = .ok (.iload_n 3, 1) := by decide +kernel
theorem dX8_store_54 : decode cX8_store 54 = .ok (.iadd, 1) := by decide +kernel
theorem dX8_store_55 : decode cX8_store 55 = .ok (.iastore, 1) := by decide +kernel
theorem dX8_store_56 : decode cX8_store 56 = .ok (.aload_n 0, 1) := by decide +kernel
theorem dX8_store_57 : decode cX8_store 57 = .ok (.iconst 0, 1) := by decide +kernel
theorem dX8_store_58 : decode cX8_store 58 = .ok (.iload_n 2, 1) := by decide +kernel
theorem dX8_store_59 : decode cX8_store 59 = .ok (.iload_n 3, 1) := by decide +kernel
theorem dX8_store_60 : decode cX8_store 60 = .ok (.invokevirtual 134, 3) := by decide +kernel
theorem dX8_store_63 : decode cX8_store 63 = .ok (.aload_n 0, 1) := by decide +kernel
theorem dX8_store_64 : decode cX8_store 64 = .ok (.iload_n 1, 1) := by decide +kernel
theorem dX8_store_65 : decode cX8_store 65 = .ok (.iload_n 2, 1) := by decide +kernel
theorem dX8_store_66 : decode cX8_store 66 = .ok (.invokevirtual 130, 3) := by decide +kernel
theorem dX8_store_69 : decode cX8_store 69 = .ok (.ireturn, 1) := by decide +kernel
set_option maxRecDepth 20000 in
theorem ggX8_load_X8_isWare : GoodIn wsX8_load wsX8_isWare := goodIn_r _ [5, 6, 7, 4, 8] (by decide +kernel) (by decide +kernel)
set_option maxRecDepth 20000 in
theorem gX8_load_X8_isWare : GoodIn wsX8_load (va_wsS RX8 127 yX8_isWare wsX8_isWare) := goodIn_app (goodIn_of _ (by decide +kernel)) ggX8_load_X8_isWare
set_option maxRecDepth 20000 in
theorem ggX8_load_X8_in : GoodIn wsX8_load wsX8_in := goodIn_r _ [8] (by decide +kernel) (by decide +kernel)
set_option maxRecDepth 20000 in
theorem gX8_load_X8_in : GoodIn wsX8_load (va_wsS RX8 108 yX8_in wsX8_in) := goodIn_app (goodIn_of _ (by decide +kernel)) ggX8_load_X8_in
theorem dX8_load_0 : decode cX8_load 0 = .ok (.iload_n 1, 1) := by decide +kernel
theorem dX8_load_1 : decode cX8_load 1 = .ok (.invokestatic 127, 3) := by decide +kernel
theorem dX8_load_4 : decode cX8_load 4 = .ok (.ifCond .eq 14, 3) := by decide +kernel
theorem dX8_load_7 : decode cX8_load 7 = .ok (.iload_n 2, 1) := by decide +kernel
theorem dX8_load_8 : decode cX8_load 8 = .ok (.iconst 0, 1) := by decide +kernel
theorem dX8_load_9 : decode cX8_load 9 = .ok (.sipush 500, 3) := by decide +kernel
theorem dX8_load_12 : decode cX8_load 12 = .ok (.invokestatic 108, 3) := by decide +kernel
theorem dX8_load_15 : decode cX8_load 15 = .ok (.ifCond .ne 5, 3) := by decide +kernel
theorem dX8_load_18 : decode cX8_load 18 = .ok (.iconst 0, 1) := by decide +kernel
theorem dX8_load_19 : decode cX8_load 19 = .ok (.ireturn, 1) := by decide +kernel
theorem dX8_load_20 : decode cX8_load 20 = .ok (.aload_n 0, 1) := by decide +kernel
theorem dX8_load_21 : decode cX8_load 21 = .ok (.getfield 37, 3) := by decide +kernel
theorem dX8_load_24 : decode cX8_load 24 = .ok (.iload_n 1, 1) := by decide +kernel
theorem dX8_load_25 : decode cX8_load 25 = .ok (.iload_n 2, 1) := by decide +kernel
theorem dX8_load_26 : decode cX8_load 26 = .ok (.iastore, 1) := by decide +kernel
theorem dX8_load_27 : decode cX8_load 27 = .ok (.iconst 1, 1) := by decide +kernel
theorem dX8_load_28 : decode cX8_load 28 = .ok (.ireturn, 1) := by decide +kernel
set_option maxRecDepth 20000 in
theorem ggX8_send_X8_isPost : GoodIn wsX8_send wsX8_isPost := goodIn_r _ [26, 27, 28, 29, 25, 30, 50, 51, 52, 53, 54, 55, 56, 57, 58, 59, 60, 61, 62, 63, 64, 65, 66, 67, 68, 69, 70, 71, 72, 73, 74, 75, 76, 77, 78, 79, 80, 81, 82, 83, 84, 85, 86] (by decide +kernel) (by decide +kernel)
set_option maxRecDepth 20000 in
theorem gX8_send_X8_isPost : GoodIn wsX8_send (wsV RX8 119 RX8 yX8_isPost wsX8_isPost) := goodIn_app (goodIn_of _ (by decide +kernel)) ggX8_send_X8_isPost
set_option maxRecDepth 20000 in
theorem ggX8_send_X8_in : GoodIn wsX8_send wsX8_in := goodIn_r _ [30] (by decide +kernel) (by decide +kernel)
set_option maxRecDepth 20000 in
theorem gX8_send_X8_in : GoodIn wsX8_send (va_wsS RX8 108 yX8_in wsX8_in) := goodIn_app (goodIn_of _ (by decide +kernel)) ggX8_send_X8_in
set_option maxRecDepth 20000 in
theorem ggX8_send_X8_stored : GoodIn wsX8_send wsX8_stored := goodIn_r _ [34, 15, 50, 51, 52, 53, 54, 55, 56, 57, 58, 59, 60, 61, 62, 63, 64, 65, 66, 67, 68, 69, 70, 71, 72, 73, 74, 75, 76, 77, 78, 79, 80, 81, 82, 83, 84, 85, 86] (by decide +kernel) (by decide +kernel)
set_option maxRecDepth 20000 in
theorem gX8_send_X8_stored : GoodIn wsX8_send (wsV RX8 130 RX8 yX8_stored wsX8_stored) := goodIn_app (goodIn_of _ (by decide +kernel)) ggX8_send_X8_stored
set_option maxRecDepth 20000 in
theorem ggX8_send_X8_isOpen : GoodIn wsX8_send wsX8_isOpen := goodIn_r _ [38, 39, 40, 28, 29, 25, 30, 50, 51, 52, 53, 54, 55, 56, 57, 58, 59, 60, 61, 62, 63, 64, 65, 66, 67, 68, 69, 70, 71, 72, 73, 74, 75, 76, 77, 78, 79, 80, 81, 82, 83, 84, 85, 86] (by decide +kernel) (by decide +kernel)
set_option maxRecDepth 20000 in
theorem gX8_send_X8_isOpen : GoodIn wsX8_send (wsV RX8 140 RX8 yX8_isOpen wsX8_isOpen) := goodIn_app (goodIn_of _ (by decide +kernel)) ggX8_send_X8_isOpen
set_option maxRecDepth 20000 in
theorem ggX8_send_X8_next : GoodIn wsX8_send wsX8_next := goodIn_r _ [44, 45, 1, 2, 3, 27, 22, 23, 24, 25, 26, 28, 29, 30, 46, 47, 48, 49, 50, 51, 52, 53, 54, 55, 56, 57, 58, 59, 60, 61, 62, 63, 64, 65, 66, 67, 68, 69, 70, 71, 72, 73, 74, 75, 76, 77, 78, 79, 80, 81, 82, 83, 84, 85, 86] (by decide +kernel) (by decide +kernel)
set_option maxRecDepth 20000 in
theorem gX8_send_X8_next : GoodIn wsX8_send (wsV RX8 147 RX8 yX8_next wsX8_next) := goodIn_app (goodIn_of _ (by decide +kernel)) ggX8_send_X8_next
theorem dX8_send_0 : decode cX8_send 0 = .ok (.aload_n 0, 1) := by decide +kernel
theorem dX8_send_1 : decode cX8_send 1 = .ok (.iload_n 1, 1) := by decide +kernel
theorem dX8_send_2 : decode cX8_send 2 = .ok (.invokevirtual 119, 3) := by decide +kernel
theorem dX8_send_5 : decode cX8_send 5 = .ok (.ifCond .eq 37, 3) := by decide +kernel
theorem dX8_send_8 : decode cX8_send 8 = .ok (.iload_n 2, 1) := by decide +kernel
theorem dX8_send_9 : decode cX8_send 9 = .ok (.iconst 0, 1) := by decide +kernel
theorem dX8_send_10 : decode cX8_send 10 = .ok (.aload_n 0, 1) := by decide +kernel
theorem dX8_send_11 : decode cX8_send 11 = .ok (.getfield 115, 3) := by decide +kernel
theorem dX8_send_14 : decode cX8_send 14 = .ok (.iconst 1, 1) := by decide +kernel
theorem dX8_send_15 : decode cX8_send 15 = .ok (.isub, 1) := by decide +kernel
theorem dX8_send_16 : decode cX8_send 16 = .ok (.invokestatic 108, 3) := by decide +kernel
theorem dX8_send_19 : decode cX8_send 19 = .ok (.ifCond .eq 23, 3) := by decide +kernel
theorem dX8_send_22 : decode cX8_send 22 = .ok (.aload_n 0, 1) := by decide +kernel
theorem dX8_send_23 : decode cX8_send 23 = .ok (.getfield 19, 3) := by decide +kernel
theorem dX8_send_26 : decode cX8_send 26 = .ok (.iload_n 2, 1) := by decide +kernel
theorem dX8_send_27 : decode cX8_send 27 = .ok (.iaload, 1) := by decide +kernel
theorem dX8_send_28 : decode cX8_send 28 = .ok (.iload_n 1, 1) := by decide +kernel
theorem dX8_send_29 : decode cX8_send 29 = .ok (.if_icmp .eq 15, 3) := by decide +kernel
theorem dX8_send_32 : decode cX8_send 32 = .ok (.aload_n 0, 1) := by decide +kernel
theorem dX8_send_33 : decode cX8_send 33 = .ok (.getfield 22, 3) := by decide +kernel
theorem dX8_send_36 : decode cX8_send 36 = .ok (.iload_n 2, 1) := by decide +kernel
theorem dX8_send_37 : decode cX8_send 37 = .ok (.iaload, 1) := by decide +kernel
theorem dX8_send_38 : decode cX8_send 38 = .ok (.iload_n 1, 1) := by decide +kernel
theorem dX8_send_39 : decode cX8_send 39 = .ok (.if_icmp .eq 5, 3) := by decide +kernel
theorem dX8_send_42 : decode cX8_send 42 = .ok (.iconst (-1), 1) := by decide +kernel
theorem dX8_send_43 : decode cX8_send 43 = .ok (.ireturn, 1) := by decide +kernel
theorem dX8_send_44 : decode cX8_send 44 = .ok (.iconst 0, 1) := by decide +kernel
theorem dX8_send_45 : decode cX8_send 45 = .ok (.istore_n 3, 1) := by decide +kernel
theorem dX8_send_46 : decode cX8_send 46 = .ok (.iconst 0, 1) := by decide +kernel
theorem dX8_send_47 : decode cX8_send 47 = .ok (.istore 4, 2) := by decide +kernel
theorem dX8_send_49 : decode cX8_send 49 = .ok (.iload 4, 2) := by decide +kernel
theorem dX8_send_51 : decode cX8_send 51 = .ok (.bipush 6, 2) := by decide +kernel
theorem dX8_send_53 : decode cX8_send 53 = .ok (.if_icmp .ge 38, 3) := by decide +kernel
theorem dX8_send_56 : decode cX8_send 56 = .ok (.iload_n 3, 1) := by decide +kernel
theorem dX8_send_57 : decode cX8_send 57 = .ok (.aload_n 0, 1) := by decide +kernel
theorem dX8_send_58 : decode cX8_send 58 = .ok (.getfield 37, 3) := by decide +kernel
theorem dX8_send_61 : decode cX8_send 61 = .ok (.iload 4, 2) := by decide +kernel
theorem dX8_send_63 : decode cX8_send 63 = .ok (.iaload, 1) := by decide +kernel
theorem dX8_send_64 : decode cX8_send 64 = .ok (.iadd, 1) := by decide +kernel
theorem dX8_send_65 : decode cX8_send 65 = .ok (.istore_n 3, 1) := by decide +kernel
theorem dX8_send_66 : decode cX8_send 66 = .ok (.aload_n 0, 1) := by decide +kernel
theorem dX8_send_67 : decode cX8_send 67 = .ok (.getfield 37, 3) := by decide +kernel
theorem dX8_send_70 : decode cX8_send 70 = .ok (.iload 4, 2) := by decide +kernel
theorem dX8_send_72 : decode cX8_send 72 = .ok (.iaload, 1) := by decide +kernel
theorem dX8_send_73 : decode cX8_send 73 = .ok (.aload_n 0, 1) := by decide +kernel
theorem dX8_send_74 : decode cX8_send 74 = .ok (.iload_n 1, 1) := by decide +kernel
theorem dX8_send_75 : decode cX8_send 75 = .ok (.iload 4, 2) := by decide +kernel
theorem dX8_send_77 : decode cX8_send 77 = .ok (.invokevirtual 130, 3) := by decide +kernel
theorem dX8_send_80 : decode cX8_send 80 = .ok (.if_icmp .le 5, 3) := by decide +kernel
theorem dX8_send_83 : decode cX8_send 83 = .ok (.iconst (-1), 1) := by decide +kernel
theorem dX8_send_84 : decode cX8_send 84 = .ok (.ireturn, 1) := by decide +kernel
theorem dX8_send_85 : decode cX8_send 85 = .ok (.iinc 4 1, 3) := by decide +kernel
theorem dX8_send_88 : decode cX8_send 88 = .ok (.goto (-39), 3) := by decide +kernel
theorem dX8_send_91 : decode cX8_send 91 = .ok (.aload_n 0, 1) := by decide +kernel
theorem dX8_send_92 : decode cX8_send 92 = .ok (.iload_n 2, 1) := by decide +kernel
theorem dX8_send_93 : decode cX8_send 93 = .ok (.aload_n 0, 1) := by decide +kernel
theorem dX8_send_94 : decode cX8_send 94 = .ok (.getfield 137, 3) := by decide +kernel
theorem dX8_send_97 : decode cX8_send 97 = .ok (.invokevirtual 140, 3) := by decide +kernel
theorem dX8_send_100 : decode cX8_send 100 = .ok (.ifCond .eq 32, 3) := by decide +kernel
theorem dX8_send_103 : decode cX8_send 103 = .ok (.iload_n 3, 1) := by decide +kernel
theorem dX8_send_104 : decode cX8_send 104 = .ok (.aload_n 0, 1) := by decide +kernel
theorem dX8_send_105 : decode cX8_send 105 = .ok (.getfield 34, 3) := by decide +kernel
theorem dX8_send_108 : decode cX8_send 108 = .ok (.iload_n 2, 1) := by decide +kernel
theorem dX8_send_109 : decode cX8_send 109 = .ok (.iaload, 1) := by decide +kernel
theorem dX8_send_110 : decode cX8_send 110 = .ok (.if_icmp .gt 22, 3) := by decide +kernel
theorem dX8_send_113 : decode cX8_send 113 = .ok (.aload_n 0, 1) := by decide +kernel
theorem dX8_send_114 : decode cX8_send 114 = .ok (.getfield 112, 3) := by decide +kernel
theorem dX8_send_117 : decode cX8_send 117 = .ok (.bipush 120, 2) := by decide +kernel
theorem dX8_send_119 : decode cX8_send 119 = .ok (.if_icmp .eq 13, 3) := by decide +kernel
theorem dX8_send_122 : decode cX8_send 122 = .ok (.aload_n 0, 1) := by decide +kernel
theorem dX8_send_123 : decode cX8_send 123 = .ok (.getfield 137, 3) := by decide +kernel
theorem dX8_send_126 : decode cX8_send 126 = .ok (.sipush 3000, 3) := by decide +kernel
theorem dX8_send_129 : decode cX8_send 129 = .ok (.if_icmp .ne 5, 3) := by decide +kernel
theorem dX8_send_132 : decode cX8_send 132 = .ok (.iconst (-1), 1) := by decide +kernel
theorem dX8_send_133 : decode cX8_send 133 = .ok (.ireturn, 1) := by decide +kernel
theorem dX8_send_134 : decode cX8_send 134 = .ok (.aload_n 0, 1) := by decide +kernel
theorem dX8_send_135 : decode cX8_send 135 = .ok (.getfield 112, 3) := by decide +kernel
theorem dX8_send_138 : decode cX8_send 138 = .ok (.istore 4, 2) := by decide +kernel
theorem dX8_send_140 : decode cX8_send 140 = .ok (.aload_n 0, 1) := by decide +kernel
theorem dX8_send_141 : decode cX8_send 141 = .ok (.getfield 40, 3) := by decide +kernel
theorem dX8_send_144 : decode cX8_send 144 = .ok (.iload 4, 2) := by decide +kernel
theorem dX8_send_146 : decode cX8_send 146 = .ok (.iload_n 1, 1) := by decide +kernel
theorem dX8_send_147 : decode cX8_send 147 = .ok (.iastore, 1) := by decide +kernel
theorem dX8_send_148 : decode cX8_send 148 = .ok (.aload_n 0, 1) := by decide +kernel
theorem dX8_send_149 : decode cX8_send 149 = .ok (.getfield 43, 3) := by decide +kernel
theorem dX8_send_152 : decode cX8_send 152 = .ok (.iload 4, 2) := by decide +kernel
theorem dX8_send_154 : decode cX8_send 154 = .ok (.aload_n 0, 1) := by decide +kernel
theorem dX8_send_155 : decode cX8_send 155 = .ok (.getfield 19, 3) := by decide +kernel
theorem dX8_send_158 : decode cX8_send 158 = .ok (.iload_n 2, 1) := by decide +kernel
theorem dX8_send_159 : decode cX8_send 159 = .ok (.iaload, 1) := by decide +kernel
theorem dX8_send_160 : decode cX8_send 160 = .ok (.iload_n 1, 1) := by decide +kernel
theorem dX8_send_161 : decode cX8_send 161 = .ok (.if_icmp .ne 12, 3) := by decide +kernel
theorem dX8_send_164 : decode cX8_send 164 = .ok (.aload_n 0, 1) := by decide +kernel
theorem dX8_send_165 : decode cX8_send 165 = .ok (.getfield 22, 3) := by decide +kernel
theorem dX8_send_168 : decode cX8_send 168 = .ok (.iload_n 2, 1) := by decide +kernel
theorem dX8_send_169 : decode cX8_send 169 = .ok (.iaload, 1) := by decide +kernel
theorem dX8_send_170 : decode cX8_send 170 = .ok (.goto 9, 3) := by decide +kernel
theorem dX8_send_173 : decode cX8_send 173 = .ok (.aload_n 0, 1) := by decide +kernel
theorem dX8_send_174 : decode cX8_send 174 = .ok (.getfield 19, 3) := by decide +kernel
theorem dX8_send_177 : decode cX8_send 177 = .ok (.iload_n 2, 1) := by decide +kernel
theorem dX8_send_178 : decode cX8_send 178 = .ok (.iaload, 1) := by decide +kernel
theorem dX8_send_179 : decode cX8_send 179 = .ok (.iastore, 1) := by decide +kernel
theorem dX8_send_180 : decode cX8_send 180 = .ok (.aload_n 0, 1) := by decide +kernel
theorem dX8_send_181 : decode cX8_send 181 = .ok (.getfield 46, 3) := by decide +kernel
theorem dX8_send_184 : decode cX8_send 184 = .ok (.iload 4, 2) := by decide +kernel
theorem dX8_send_186 : decode cX8_send 186 = .ok (.iload_n 2, 1) := by decide +kernel
theorem dX8_send_187 : decode cX8_send 187 = .ok (.iastore, 1) := by decide +kernel
theorem dX8_send_188 : decode cX8_send 188 = .ok (.aload_n 0, 1) := by decide +kernel
theorem dX8_send_189 : decode cX8_send 189 = .ok (.getfield 49, 3) := by decide +kernel
theorem dX8_send_192 : decode cX8_send 192 = .ok (.iload 4, 2) := by decide +kernel
theorem dX8_send_194 : decode cX8_send 194 = .ok (.aload_n 0, 1) := by decide +kernel
theorem dX8_send_195 : decode cX8_send 195 = .ok (.getfield 25, 3) := by decide +kernel
theorem dX8_send_198 : decode cX8_send 198 = .ok (.iload_n 2, 1) := by decide +kernel
theorem dX8_send_199 : decode cX8_send 199 = .ok (.iaload, 1) := by decide +kernel
theorem dX8_send_200 : decode cX8_send 200 = .ok (.iastore, 1) := by decide +kernel
theorem dX8_send_201 : decode cX8_send 201 = .ok (.aload_n 0, 1) := by decide +kernel
theorem dX8_send_202 : decode cX8_send 202 = .ok (.getfield 55, 3) := by decide +kernel
theorem dX8_send_205 : decode cX8_send 205 = .ok (.iload 4, 2) := by decide +kernel
theorem dX8_send_207 : decode cX8_send 207 = .ok (.aload_n 0, 1) := by decide +kernel
theorem dX8_send_208 : decode cX8_send 208 = .ok (.getfield 137, 3) := by decide +kernel
theorem dX8_send_211 : decode cX8_send 211 = .ok (.iastore, 1) := by decide +kernel
theorem dX8_send_212 : decode cX8_send 212 = .ok (.aload_n 0, 1) := by decide +kernel
theorem dX8_send_213 : decode cX8_send 213 = .ok (.getfield 58, 3) := by decide +kernel
theorem dX8_send_216 : decode cX8_send 216 = .ok (.iload 4, 2) := by decide +kernel
theorem dX8_send_218 : decode cX8_send 218 = .ok (.iconst (-1), 1) := by decide +kernel
theorem dX8_send_219 : decode cX8_send 219 = .ok (.iastore, 1) := by decide +kernel
theorem dX8_send_220 : decode cX8_send 220 = .ok (.iconst 0, 1) := by decide +kernel
theorem dX8_send_221 : decode cX8_send 221 = .ok (.istore 5, 2) := by decide +kernel
theorem dX8_send_223 : decode cX8_send 223 = .ok (.iload 5, 2) := by decide +kernel
theorem dX8_send_225 : decode cX8_send 225 = .ok (.bipush 6, 2) := by decide +kernel
theorem dX8_send_227 : decode cX8_send 227 = .ok (.if_icmp .ge 79, 3) := by decide +kernel
theorem dX8_send_230 : decode cX8_send 230 = .ok (.aload_n 0, 1) := by decide +kernel
theorem dX8_send_231 : decode cX8_send 231 = .ok (.getfield 9, 3) := by decide +kernel
theorem dX8_send_234 : decode cX8_send 234 = .ok (.bipush 6, 2) := by decide +kernel
theorem dX8_send_236 : decode cX8_send 236 = .ok (.iload_n 1, 1) := by decide +kernel
theorem dX8_send_237 : decode cX8_send 237 = .ok (.imul, 1) := by decide +kernel
theorem dX8_send_238 : decode cX8_send 238 = .ok (.iload 5, 2) := by decide +kernel
theorem dX8_send_240 : decode cX8_send 240 = .ok (.iadd, 1) := by decide +kernel
theorem dX8_send_241 : decode cX8_send 241 = .ok (.dup2, 1) := by decide +kernel
theorem dX8_send_242 : decode cX8_send 242 = .ok (.iaload, 1) := by decide +kernel
theorem dX8_send_243 : decode cX8_send 243 = .ok (.aload_n 0, 1) := by decide +kernel
theorem dX8_send_244 : decode cX8_send 244 = .ok (.getfield 37, 3) := by decide +kernel
theorem dX8_send_247 : decode cX8_send 247 = .ok (.iload 5, 2) := by decide +kernel
theorem dX8_send_249 : decode cX8_send 249 = .ok (.iaload, 1) := by decide +kernel
theorem dX8_send_250 : decode cX8_send 250 = .ok (.isub, 1) := by decide +kernel
theorem dX8_send_251 : decode cX8_send 251 = .ok (.iastore, 1) := by decide +kernel
theorem dX8_send_252 : decode cX8_send 252 = .ok (.aload_n 0, 1) := by decide +kernel
theorem dX8_send_253 : decode cX8_send 253 = .ok (.getfield 64, 3) := by decide +kernel
theorem dX8_send_256 : decode cX8_send 256 = .ok (.bipush 6, 2) := by decide +kernel
theorem dX8_send_258 : decode cX8_send 258 = .ok (.iload 4, 2) := by decide +kernel
theorem dX8_send_260 : decode cX8_send 260 = .ok (.imul, 1) := by decide +kernel
theorem dX8_send_261 : decode cX8_send 261 = .ok (.iload 5, 2) := by decide +kernel
theorem dX8_send_263 : decode cX8_send 263 = .ok (.iadd, 1) := by decide +kernel
theorem dX8_send_264 : decode cX8_send 264 = .ok (.aload_n 0, 1) := by decide +kernel
theorem dX8_send_265 : decode cX8_send 265 = .ok (.getfield 37, 3) := by decide +kernel
theorem dX8_send_268 : decode cX8_send 268 = .ok (.iload 5, 2) := by decide +kernel
theorem dX8_send_270 : decode cX8_send 270 = .ok (.iaload, 1) := by decide +kernel
theorem dX8_send_271 : decode cX8_send 271 = .ok (.iastore, 1) := by decide +kernel
theorem dX8_send_272 : decode cX8_send 272 = .ok (.aload_n 0, 1) := by decide +kernel
theorem dX8_send_273 : decode cX8_send 273 = .ok (.getfield 67, 3) := by decide +kernel
theorem dX8_send_276 : decode cX8_send 276 = .ok (.bipush 6, 2) := by decide +kernel
theorem dX8_send_278 : decode cX8_send 278 = .ok (.iload 4, 2) := by decide +kernel
theorem dX8_send_280 : decode cX8_send 280 = .ok (.imul, 1) := by decide +kernel
theorem dX8_send_281 : decode cX8_send 281 = .ok (.iload 5, 2) := by decide +kernel
theorem dX8_send_283 : decode cX8_send 283 = .ok (.iadd, 1) := by decide +kernel
theorem dX8_send_284 : decode cX8_send 284 = .ok (.aload_n 0, 1) := by decide +kernel
theorem dX8_send_285 : decode cX8_send 285 = .ok (.getfield 37, 3) := by decide +kernel
theorem dX8_send_288 : decode cX8_send 288 = .ok (.iload 5, 2) := by decide +kernel
theorem dX8_send_290 : decode cX8_send 290 = .ok (.iaload, 1) := by decide +kernel
theorem dX8_send_291 : decode cX8_send 291 = .ok (.iastore, 1) := by decide +kernel
theorem dX8_send_292 : decode cX8_send 292 = .ok (.aload_n 0, 1) := by decide +kernel
theorem dX8_send_293 : decode cX8_send 293 = .ok (.getfield 37, 3) := by decide +kernel
theorem dX8_send_296 : decode cX8_send 296 = .ok (.iload 5, 2) := by decide +kernel
theorem dX8_send_298 : decode cX8_send 298 = .ok (.iconst 0, 1) := by decide +kernel
theorem dX8_send_299 : decode cX8_send 299 = .ok (.iastore, 1) := by decide +kernel
theorem dX8_send_300 : decode cX8_send 300 = .ok (.iinc 5 1, 3) := by decide +kernel
theorem dX8_send_303 : decode cX8_send 303 = .ok (.goto (-80), 3) := by decide +kernel
theorem dX8_send_306 : decode cX8_send 306 = .ok (.iconst 0, 1) := by decide +kernel
theorem dX8_send_307 : decode cX8_send 307 = .ok (.istore 5, 2) := by decide +kernel
theorem dX8_send_309 : decode cX8_send 309 = .ok (.iload 5, 2) := by decide +kernel
theorem dX8_send_311 : decode cX8_send 311 = .ok (.aload_n 0, 1) := by decide +kernel
theorem dX8_send_312 : decode cX8_send 312 = .ok (.getfield 144, 3) := by decide +kernel
theorem dX8_send_315 : decode cX8_send 315 = .ok (.if_icmp .ge 69, 3) := by decide +kernel
theorem dX8_send_318 : decode cX8_send 318 = .ok (.aload_n 0, 1) := by decide +kernel
theorem dX8_send_319 : decode cX8_send 319 = .ok (.getfield 80, 3) := by decide +kernel
theorem dX8_send_322 : decode cX8_send 322 = .ok (.iload 5, 2) := by decide +kernel
theorem dX8_send_324 : decode cX8_send 324 = .ok (.iaload, 1) := by decide +kernel
theorem dX8_send_325 : decode cX8_send 325 = .ok (.iload_n 1, 1) := by decide +kernel
theorem dX8_send_326 : decode cX8_send 326 = .ok (.if_icmp .ne 52, 3) := by decide +kernel
theorem dX8_send_329 : decode cX8_send 329 = .ok (.aload_n 0, 1) := by decide +kernel
theorem dX8_send_330 : decode cX8_send 330 = .ok (.iload_n 1, 1) := by decide +kernel
theorem dX8_send_331 : decode cX8_send 331 = .ok (.aload_n 0, 1) := by decide +kernel
theorem dX8_send_332 : decode cX8_send 332 = .ok (.getfield 77, 3) := by decide +kernel
theorem dX8_send_335 : decode cX8_send 335 = .ok (.iload 5, 2) := by decide +kernel
theorem dX8_send_337 : decode cX8_send 337 = .ok (.iaload, 1) := by decide +kernel
theorem dX8_send_338 : decode cX8_send 338 = .ok (.invokevirtual 147, 3) := by decide +kernel
theorem dX8_send_341 : decode cX8_send 341 = .ok (.aload_n 0, 1) := by decide +kernel
theorem dX8_send_342 : decode cX8_send 342 = .ok (.getfield 43, 3) := by decide +kernel
theorem dX8_send_345 : decode cX8_send 345 = .ok (.iload 4, 2) := by decide +kernel
theorem dX8_send_347 : decode cX8_send 347 = .ok (.iaload, 1) := by decide +kernel
theorem dX8_send_348 : decode cX8_send 348 = .ok (.if_icmp .eq 6, 3) := by decide +kernel
theorem dX8_send_351 : decode cX8_send 351 = .ok (.goto 27, 3) := by decide +kernel
theorem dX8_send_354 : decode cX8_send 354 = .ok (.aload_n 0, 1) := by decide +kernel
theorem dX8_send_355 : decode cX8_send 355 = .ok (.getfield 80, 3) := by decide +kernel
theorem dX8_send_358 : decode cX8_send 358 = .ok (.iload 5, 2) := by decide +kernel
theorem dX8_send_360 : decode cX8_send 360 = .ok (.sipush 2000, 3) := by decide +kernel
theorem dX8_send_363 : decode cX8_send 363 = .ok (.iload 4, 2) := by decide +kernel
theorem dX8_send_365 : decode cX8_send 365 = .ok (.iadd, 1) := by decide +kernel
theorem dX8_send_366 : decode cX8_send 366 = .ok (.iastore, 1) := by decide +kernel
theorem dX8_send_367 : decode cX8_send 367 = .ok (.aload_n 0, 1) := by decide +kernel
theorem dX8_send_368 : decode cX8_send 368 = .ok (.getfield 61, 3) := by decide +kernel
theorem dX8_send_371 : decode cX8_send 371 = .ok (.iload 4, 2) := by decide +kernel
theorem dX8_send_373 : decode cX8_send 373 = .ok (.dup2, 1) := by decide +kernel
theorem dX8_send_374 : decode cX8_send 374 = .ok (.iaload, 1) := by decide +kernel
theorem dX8_send_375 : decode cX8_send 375 = .ok (.iconst 1, 1) := by decide +kernel
theorem dX8_send_376 : decode cX8_send 376 = .ok (.iadd, 1) := by decide +kernel
theorem dX8_send_377 : decode cX8_send 377 = .ok (.iastore, 1) := by decide +kernel
theorem dX8_send_378 : decode cX8_send 378 = .ok (.iinc 5 1, 3) := by decide +kernel
theorem dX8_send_381 : decode cX8_send 381 = .ok (.goto (-72), 3) := by decide +kernel
theorem dX8_send_384 : decode cX8_send 384 = .ok (.aload_n 0, 1) := by decide +kernel
theorem dX8_send_385 : decode cX8_send 385 = .ok (.dup, 1) := by decide +kernel
theorem dX8_send_386 : decode cX8_send 386 = .ok (.getfield 112, 3) := by decide +kernel
theorem dX8_send_389 : decode cX8_send 389 = .ok (.iconst 1, 1) := by decide +kernel
theorem dX8_send_390 : decode cX8_send 390 = .ok (.iadd, 1) := by decide +kernel
theorem dX8_send_391 : decode cX8_send 391 = .ok (.putfield 112, 3) := by decide +kernel
theorem dX8_send_394 : decode cX8_send 394 = .ok (.iload 4, 2) := by decide +kernel
theorem dX8_send_396 : decode cX8_send 396 = .ok (.ireturn, 1) := by decide +kernel
set_option maxRecDepth 20000 in
theorem ggX8_isAway_X8_isCanoe : GoodIn wsX8_isAway wsX8_isCanoe := goodIn_r _ [6, 7, 8, 9, 5, 10, 11, 12, 13, 14, 15, 16, 17, 18, 19, 20, 21, 22, 23, 24, 25, 26, 27, 28, 29, 30, 31, 32, 33, 34, 35, 36, 37, 38, 39, 40, 41, 42, 43, 44, 45, 46, 47] (by decide +kernel) (by decide +kernel)
set_option maxRecDepth 20000 in
theorem gX8_isAway_X8_isCanoe : GoodIn wsX8_isAway (wsV RX8 150 RX8 yX8_isCanoe wsX8_isCanoe) := goodIn_app (goodIn_of _ (by decide +kernel)) ggX8_isAway_X8_isCanoe
theorem dX8_isAway_0 : decode cX8_isAway 0 = .ok (.aload_n 0, 1) := by decide +kernel
theorem dX8_isAway_1 : decode cX8_isAway 1 = .ok (.iload_n 1, 1) := by decide +kernel
theorem dX8_isAway_2 : decode cX8_isAway 2 = .ok (.invokevirtual 150, 3) := by decide +kernel
theorem dX8_isAway_5 : decode cX8_isAway 5 = .ok (.ifCond .eq 16, 3) := by decide +kernel
theorem dX8_isAway_8 : decode cX8_isAway 8 = .ok (.aload_n 0, 1) := by decide +kernel
theorem dX8_isAway_9 : decode cX8_isAway 9 = .ok (.getfield 52, 3) := by decide +kernel
theorem dX8_isAway_12 : decode cX8_isAway 12 = .ok (.iload_n 1, 1) := by decide +kernel
theorem dX8_isAway_13 : decode cX8_isAway 13 = .ok (.iaload, 1) := by decide +kernel
theorem dX8_isAway_14 : decode cX8_isAway 14 = .ok (.ifCond .ne 7, 3) := by decide +kernel
theorem dX8_isAway_17 : decode cX8_isAway 17 = .ok (.iconst 1, 1) := by decide +kernel
theorem dX8_isAway_18 : decode cX8_isAway 18 = .ok (.goto 4, 3) := by decide +kernel
theorem dX8_isAway_21 : decode cX8_isAway 21 = .ok (.iconst 0, 1) := by decide +kernel
theorem dX8_isAway_22 : decode cX8_isAway 22 = .ok (.ireturn, 1) := by decide +kernel
set_option maxRecDepth 20000 in
theorem ggX8_lose_X8_isAway : GoodIn wsX8_lose wsX8_isAway := goodIn_r _ [12, 7, 13, 14, 15, 11, 16, 17, 18, 19, 20, 26, 27, 28, 29, 30, 31, 32, 33, 34, 35, 36, 37, 38, 39, 40, 41, 42, 43, 44, 45, 46, 47, 48, 49, 50, 51, 52, 53, 54, 55, 56, 57, 58, 59, 60, 61, 62] (by decide +kernel) (by decide +kernel)
set_option maxRecDepth 20000 in
theorem gX8_lose_X8_isAway : GoodIn wsX8_lose (wsV RX8 153 RX8 yX8_isAway wsX8_isAway) := goodIn_app (goodIn_of _ (by decide +kernel)) ggX8_lose_X8_isAway
set_option maxRecDepth 20000 in
theorem ggX8_lose_X8_sums : GoodIn wsX8_lose wsX8_sums := goodIn_r _ [24, 25, 26, 27, 28, 29, 30, 31, 32, 33, 34, 35, 36, 37, 38, 39, 40, 41, 42, 43, 44, 45, 46, 47, 48, 49, 50, 51, 52, 53, 54, 55, 56, 57, 58, 59, 60, 61, 62] (by decide +kernel) (by decide +kernel)
set_option maxRecDepth 20000 in
theorem gX8_lose_X8_sums : GoodIn wsX8_lose (wsV RX8 134 RX8 yX8_sums wsX8_sums) := goodIn_app (goodIn_of _ (by decide +kernel)) ggX8_lose_X8_sums
theorem dX8_lose_0 : decode cX8_lose 0 = .ok (.aload_n 0, 1) := by decide +kernel
theorem dX8_lose_1 : decode cX8_lose 1 = .ok (.iload_n 1, 1) := by decide +kernel
theorem dX8_lose_2 : decode cX8_lose 2 = .ok (.invokevirtual 153, 3) := by decide +kernel
theorem dX8_lose_5 : decode cX8_lose 5 = .ok (.ifCond .ne 5, 3) := by decide +kernel
theorem dX8_lose_8 : decode cX8_lose 8 = .ok (.iconst (-1), 1) := by decide +kernel
theorem dX8_lose_9 : decode cX8_lose 9 = .ok (.ireturn, 1) := by decide +kernel
theorem dX8_lose_10 : decode cX8_lose 10 = .ok (.iconst 0, 1) := by decide +kernel
theorem dX8_lose_11 : decode cX8_lose 11 = .ok (.istore_n 2, 1) := by decide +kernel
theorem dX8_lose_12 : decode cX8_lose 12 = .ok (.iconst 0, 1) := by decide +kernel
theorem dX8_lose_13 : decode cX8_lose 13 = .ok (.istore_n 3, 1) := by decide +kernel
theorem dX8_lose_14 : decode cX8_lose 14 = .ok (.iload_n 3, 1) := by decide +kernel
theorem dX8_lose_15 : decode cX8_lose 15 = .ok (.bipush 6, 2) := by decide +kernel
theorem dX8_lose_17 : decode cX8_lose 17 = .ok (.if_icmp .ge 52, 3) := by decide +kernel
theorem dX8_lose_20 : decode cX8_lose 20 = .ok (.iload_n 2, 1) := by decide +kernel
theorem dX8_lose_21 : decode cX8_lose 21 = .ok (.aload_n 0, 1) := by decide +kernel
theorem dX8_lose_22 : decode cX8_lose 22 = .ok (.getfield 64, 3) := by decide +kernel
theorem dX8_lose_25 : decode cX8_lose 25 = .ok (.bipush 6, 2) := by decide +kernel
theorem dX8_lose_27 : decode cX8_lose 27 = .ok (.iload_n 1, 1) := by decide +kernel
theorem dX8_lose_28 : decode cX8_lose 28 = .ok (.imul, 1) := by decide +kernel
theorem dX8_lose_29 : decode cX8_lose 29 = .ok (.iload_n 3, 1) := by decide +kernel
theorem dX8_lose_30 : decode cX8_lose 30 = .ok (.iadd, 1) := by decide +kernel
theorem dX8_lose_31 : decode cX8_lose 31 = .ok (.iaload, 1) := by decide +kernel
theorem dX8_lose_32 : decode cX8_lose 32 = .ok (.iadd, 1) := by decide +kernel
theorem dX8_lose_33 : decode cX8_lose 33 = .ok (.istore_n 2, 1) := by decide +kernel
theorem dX8_lose_34 : decode cX8_lose 34 = .ok (.aload_n 0, 1) := by decide +kernel
theorem dX8_lose_35 : decode cX8_lose 35 = .ok (.iconst 4, 1) := by decide +kernel
theorem dX8_lose_36 : decode cX8_lose 36 = .ok (.iload_n 3, 1) := by decide +kernel
theorem dX8_lose_37 : decode cX8_lose 37 = .ok (.aload_n 0, 1) := by decide +kernel
theorem dX8_lose_38 : decode cX8_lose 38 = .ok (.getfield 64, 3) := by decide +kernel
theorem dX8_lose_41 : decode cX8_lose 41 = .ok (.bipush 6, 2) := by decide +kernel
theorem dX8_lose_43 : decode cX8_lose 43 = .ok (.iload_n 1, 1) := by decide +kernel
theorem dX8_lose_44 : decode cX8_lose 44 = .ok (.imul, 1) := by decide +kernel
theorem dX8_lose_45 : decode cX8_lose 45 = .ok (.iload_n 3, 1) := by decide +kernel
theorem dX8_lose_46 : decode cX8_lose 46 = .ok (.iadd, 1) := by decide +kernel
theorem dX8_lose_47 : decode cX8_lose 47 = .ok (.iaload, 1) := by decide +kernel
theorem dX8_lose_48 : decode cX8_lose 48 = .ok (.invokevirtual 134, 3) := by decide +kernel
theorem dX8_lose_51 : decode cX8_lose 51 = .ok (.aload_n 0, 1) := by decide +kernel
theorem dX8_lose_52 : decode cX8_lose 52 = .ok (.getfield 64, 3) := by decide +kernel
theorem dX8_lose_55 : decode cX8_lose 55 = .ok (.bipush 6, 2) := by decide +kernel
theorem dX8_lose_57 : decode cX8_lose 57 = .ok (.iload_n 1, 1) := by decide +kernel
theorem dX8_lose_58 : decode cX8_lose 58 = .ok (.imul, 1) := by decide +kernel
theorem dX8_lose_59 : decode cX8_lose 59 = .ok (.iload_n 3, 1) := by decide +kernel
theorem dX8_lose_60 : decode cX8_lose 60 = .ok (.iadd, 1) := by decide +kernel
theorem dX8_lose_61 : decode cX8_lose 61 = .ok (.iconst 0, 1) := by decide +kernel
theorem dX8_lose_62 : decode cX8_lose 62 = .ok (.iastore, 1) := by decide +kernel
theorem dX8_lose_63 : decode cX8_lose 63 = .ok (.iinc 3 1, 3) := by decide +kernel
theorem dX8_lose_66 : decode cX8_lose 66 = .ok (.goto (-52), 3) := by decide +kernel
theorem dX8_lose_69 : decode cX8_lose 69 = .ok (.iconst 0, 1) := by decide +kernel
theorem dX8_lose_70 : decode cX8_lose 70 = .ok (.istore_n 3, 1) := by decide +kernel
theorem dX8_lose_71 : decode cX8_lose 71 = .ok (.iload_n 3, 1) := by decide +kernel
theorem dX8_lose_72 : decode cX8_lose 72 = .ok (.aload_n 0, 1) := by decide +kernel
theorem dX8_lose_73 : decode cX8_lose 73 = .ok (.getfield 144, 3) := by decide +kernel
theorem dX8_lose_76 : decode cX8_lose 76 = .ok (.if_icmp .ge 60, 3) := by decide +kernel
theorem dX8_lose_79 : decode cX8_lose 79 = .ok (.aload_n 0, 1) := by decide +kernel
theorem dX8_lose_80 : decode cX8_lose 80 = .ok (.getfield 80, 3) := by decide +kernel
theorem dX8_lose_83 : decode cX8_lose 83 = .ok (.iload_n 3, 1) := by decide +kernel
theorem dX8_lose_84 : decode cX8_lose 84 = .ok (.iaload, 1) := by decide +kernel
theorem dX8_lose_85 : decode cX8_lose 85 = .ok (.sipush 2000, 3) := by decide +kernel
theorem dX8_lose_88 : decode cX8_lose 88 = .ok (.iload_n 1, 1) := by decide +kernel
theorem dX8_lose_89 : decode cX8_lose 89 = .ok (.iadd, 1) := by decide +kernel
theorem dX8_lose_90 : decode cX8_lose 90 = .ok (.if_icmp .eq 6, 3) := by decide +kernel
theorem dX8_lose_93 : decode cX8_lose 93 = .ok (.goto 37, 3) := by decide +kernel
theorem dX8_lose_96 : decode cX8_lose 96 = .ok (.aload_n 0, 1) := by decide +kernel
theorem dX8_lose_97 : decode cX8_lose 97 = .ok (.getfield 80, 3) := by decide +kernel
theorem dX8_lose_100 : decode cX8_lose 100 = .ok (.iload_n 3, 1) := by decide +kernel
theorem dX8_lose_101 : decode cX8_lose 101 = .ok (.sipush 1001, 3) := by decide +kernel
theorem dX8_lose_104 : decode cX8_lose 104 = .ok (.iastore, 1) := by decide +kernel
theorem dX8_lose_105 : decode cX8_lose 105 = .ok (.aload_n 0, 1) := by decide +kernel
theorem dX8_lose_106 : decode cX8_lose 106 = .ok (.getfield 74, 3) := by decide +kernel
theorem dX8_lose_109 : decode cX8_lose 109 = .ok (.iload_n 3, 1) := by decide +kernel
theorem dX8_lose_110 : decode cX8_lose 110 = .ok (.iaload, 1) := by decide +kernel
theorem dX8_lose_111 : decode cX8_lose 111 = .ok (.iconst 1, 1) := by decide +kernel
theorem dX8_lose_112 : decode cX8_lose 112 = .ok (.if_icmp .ne 18, 3) := by decide +kernel
theorem dX8_lose_115 : decode cX8_lose 115 = .ok (.aload_n 0, 1) := by decide +kernel
theorem dX8_lose_116 : decode cX8_lose 116 = .ok (.dup, 1) := by decide +kernel
theorem dX8_lose_117 : decode cX8_lose 117 = .ok (.getfield 156, 3) := by decide +kernel
theorem dX8_lose_120 : decode cX8_lose 120 = .ok (.aload_n 0, 1) := by decide +kernel
theorem dX8_lose_121 : decode cX8_lose 121 = .ok (.getfield 86, 3) := by decide +kernel
theorem dX8_lose_124 : decode cX8_lose 124 = .ok (.iload_n 3, 1) := by decide +kernel
theorem dX8_lose_125 : decode cX8_lose 125 = .ok (.iaload, 1) := by decide +kernel
theorem dX8_lose_126 : decode cX8_lose 126 = .ok (.iadd, 1) := by decide +kernel
theorem dX8_lose_127 : decode cX8_lose 127 = .ok (.putfield 156, 3) := by decide +kernel
theorem dX8_lose_130 : decode cX8_lose 130 = .ok (.iinc 3 1, 3) := by decide +kernel
theorem dX8_lose_133 : decode cX8_lose 133 = .ok (.goto (-62), 3) := by decide +kernel
theorem dX8_lose_136 : decode cX8_lose 136 = .ok (.aload_n 0, 1) := by decide +kernel
theorem dX8_lose_137 : decode cX8_lose 137 = .ok (.getfield 52, 3) := by decide +kernel
theorem dX8_lose_140 : decode cX8_lose 140 = .ok (.iload_n 1, 1) := by decide +kernel
theorem dX8_lose_141 : decode cX8_lose 141 = .ok (.iconst 2, 1) := by decide +kernel
theorem dX8_lose_142 : decode cX8_lose 142 = .ok (.iastore, 1) := by decide +kernel
theorem dX8_lose_143 : decode cX8_lose 143 = .ok (.iload_n 2, 1) := by decide +kernel
theorem dX8_lose_144 : decode cX8_lose 144 = .ok (.ireturn, 1) := by decide +kernel
set_option maxRecDepth 20000 in
theorem ggX8_spoil_X8_isAway : GoodIn wsX8_spoil wsX8_isAway := goodIn_r _ [6, 7, 8, 9, 10, 5, 11, 12, 13, 14, 15, 24, 25, 26, 27, 28, 29, 30, 31, 32, 33, 34, 35, 36, 37, 38, 39, 40, 41, 42, 43, 44, 45, 46, 47, 48, 49, 50, 51, 52, 53, 54, 55, 56, 57, 58, 59, 60] (by decide +kernel) (by decide +kernel)
set_option maxRecDepth 20000 in
theorem gX8_spoil_X8_isAway : GoodIn wsX8_spoil (wsV RX8 153 RX8 yX8_isAway wsX8_isAway) := goodIn_app (goodIn_of _ (by decide +kernel)) ggX8_spoil_X8_isAway
set_option maxRecDepth 20000 in
theorem ggX8_spoil_X8_isWare : GoodIn wsX8_spoil wsX8_isWare := goodIn_r _ [18, 13, 14, 5, 15] (by decide +kernel) (by decide +kernel)
set_option maxRecDepth 20000 in
theorem gX8_spoil_X8_isWare : GoodIn wsX8_spoil (va_wsS RX8 127 yX8_isWare wsX8_isWare) := goodIn_app (goodIn_of _ (by decide +kernel)) ggX8_spoil_X8_isWare
set_option maxRecDepth 20000 in
theorem ggX8_spoil_X8_in : GoodIn wsX8_spoil wsX8_in := goodIn_r _ [15] (by decide +kernel) (by decide +kernel)
set_option maxRecDepth 20000 in
theorem gX8_spoil_X8_in : GoodIn wsX8_spoil (va_wsS RX8 108 yX8_in wsX8_in) := goodIn_app (goodIn_of _ (by decide +kernel)) ggX8_spoil_X8_in
set_option maxRecDepth 20000 in
theorem ggX8_spoil_X8_sums : GoodIn wsX8_spoil wsX8_sums := goodIn_r _ [22, 23, 24, 25, 26, 27, 28, 29, 30, 31, 32, 33, 34, 35, 36, 37, 38, 39, 40, 41, 42, 43, 44, 45, 46, 47, 48, 49, 50, 51, 52, 53, 54, 55, 56, 57, 58, 59, 60] (by decide +kernel) (by decide +kernel)
set_option maxRecDepth 20000 in
theorem gX8_spoil_X8_sums : GoodIn wsX8_spoil (wsV RX8 134 RX8 yX8_sums wsX8_sums) := goodIn_app (goodIn_of _ (by decide +kernel)) ggX8_spoil_X8_sums
theorem dX8_spoil_0 : decode cX8_spoil 0 = .ok (.aload_n 0, 1) := by decide +kernel
theorem dX8_spoil_1 : decode cX8_spoil 1 = .ok (.iload_n 1, 1) := by decide +kernel
theorem dX8_spoil_2 : decode cX8_spoil 2 = .ok (.invokevirtual 153, 3) := by decide +kernel
theorem dX8_spoil_5 : decode cX8_spoil 5 = .ok (.ifCond .eq 29, 3) := by decide +kernel
theorem dX8_spoil_8 : decode cX8_spoil 8 = .ok (.iload_n 2, 1) := by decide +kernel
theorem dX8_spoil_9 : decode cX8_spoil 9 = .ok (.invokestatic 127, 3) := by decide +kernel
theorem dX8_spoil_12 : decode cX8_spoil 12 = .ok (.ifCond .eq 22, 3) := by decide +kernel
theorem dX8_spoil_15 : decode cX8_spoil 15 = .ok (.iload_n 3, 1) := by decide +kernel
theorem dX8_spoil_16 : decode cX8_spoil 16 = .ok (.iconst 1, 1) := by decide +kernel
theorem dX8_spoil_17 : decode cX8_spoil 17 = .ok (.aload_n 0, 1) := by decide +kernel
theorem dX8_spoil_18 : decode cX8_spoil 18 = .ok (.getfield 64, 3) := by decide +kernel
theorem dX8_spoil_21 : decode cX8_spoil 21 = .ok (.bipush 6, 2) := by decide +kernel
theorem dX8_spoil_23 : decode cX8_spoil 23 = .ok (.iload_n 1, 1) := by decide +kernel
theorem dX8_spoil_24 : decode cX8_spoil 24 = .ok (.imul, 1) := by decide +kernel
theorem dX8_spoil_25 : decode cX8_spoil 25 = .ok (.iload_n 2, 1) := by decide +kernel
theorem dX8_spoil_26 : decode cX8_spoil 26 = .ok (.iadd, 1) := by decide +kernel
theorem dX8_spoil_27 : decode cX8_spoil 27 = .ok (.iaload, 1) := by decide +kernel
theorem dX8_spoil_28 : decode cX8_spoil 28 = .ok (.invokestatic 108, 3) := by decide +kernel
theorem dX8_spoil_31 : decode cX8_spoil 31 = .ok (.ifCond .ne 5, 3) := by decide +kernel
theorem dX8_spoil_34 : decode cX8_spoil 34 = .ok (.iconst 0, 1) := by decide +kernel
theorem dX8_spoil_35 : decode cX8_spoil 35 = .ok (.ireturn, 1) := by decide +kernel
theorem dX8_spoil_36 : decode cX8_spoil 36 = .ok (.aload_n 0, 1) := by decide +kernel
theorem dX8_spoil_37 : decode cX8_spoil 37 = .ok (.getfield 64, 3) := by decide +kernel
theorem dX8_spoil_40 : decode cX8_spoil 40 = .ok (.bipush 6, 2) := by decide +kernel
theorem dX8_spoil_42 : decode cX8_spoil 42 = .ok (.iload_n 1, 1) := by decide +kernel
theorem dX8_spoil_43 : decode cX8_spoil 43 = .ok (.imul, 1) := by decide +kernel
theorem dX8_spoil_44 : decode cX8_spoil 44 = .ok (.iload_n 2, 1) := by decide +kernel
theorem dX8_spoil_45 : decode cX8_spoil 45 = .ok (.iadd, 1) := by decide +kernel
theorem dX8_spoil_46 : decode cX8_spoil 46 = .ok (.dup2, 1) := by decide +kernel
theorem dX8_spoil_47 : decode cX8_spoil 47 = .ok (.iaload, 1) := by decide +kernel
theorem dX8_spoil_48 : decode cX8_spoil 48 = .ok (.iload_n 3, 1) := by decide +kernel
theorem dX8_spoil_49 : decode cX8_spoil 49 = .ok (.isub, 1) := by decide +kernel
theorem dX8_spoil_50 : decode cX8_spoil 50 = .ok (.iastore, 1) := by decide +kernel
theorem dX8_spoil_51 : decode cX8_spoil 51 = .ok (.aload_n 0, 1) := by decide +kernel
theorem dX8_spoil_52 : decode cX8_spoil 52 = .ok (.iconst 5, 1) := by decide +kernel
theorem dX8_spoil_53 : decode cX8_spoil 53 = .ok (.iload_n 2, 1) := by decide +kernel
theorem dX8_spoil_54 : decode cX8_spoil 54 = .ok (.iload_n 3, 1) := by decide +kernel
theorem dX8_spoil_55 : decode cX8_spoil 55 = .ok (.invokevirtual 134, 3) := by decide +kernel
theorem dX8_spoil_58 : decode cX8_spoil 58 = .ok (.iconst 1, 1) := by decide +kernel
theorem dX8_spoil_59 : decode cX8_spoil 59 = .ok (.ireturn, 1) := by decide +kernel
set_option maxRecDepth 20000 in
theorem ggX8_comes_X8_reads : GoodIn wsX8_comes wsX8_reads := goodIn_r _ [16, 11, 10, 17, 18, 19, 20, 21, 22, 23, 24, 25, 26, 27, 28, 29, 30, 31, 32, 33, 34, 35, 36, 37, 38, 39, 40, 41, 42, 43, 44, 45, 46, 47, 48, 49, 50, 51, 52, 53, 54, 55, 56, 57, 58, 59] (by decide +kernel) (by decide +kernel)
set_option maxRecDepth 20000 in
theorem gX8_comes_X8_reads : GoodIn wsX8_comes (wsV RX8 159 RX8 yX8_reads wsX8_reads) := goodIn_app (goodIn_of _ (by decide +kernel)) ggX8_comes_X8_reads
theorem dX8_comes_0 : decode cX8_comes 0 = .ok (.aload_n 0, 1) := by decide +kernel
theorem dX8_comes_1 : decode cX8_comes 1 = .ok (.getfield 52, 3) := by decide +kernel
theorem dX8_comes_4 : decode cX8_comes 4 = .ok (.iload_n 1, 1) := by decide +kernel
theorem dX8_comes_5 : decode cX8_comes 5 = .ok (.iconst 1, 1) := by decide +kernel
theorem dX8_comes_6 : decode cX8_comes 6 = .ok (.iastore, 1) := by decide +kernel
theorem dX8_comes_7 : decode cX8_comes 7 = .ok (.aload_n 0, 1) := by decide +kernel
theorem dX8_comes_8 : decode cX8_comes 8 = .ok (.getfield 58, 3) := by decide +kernel
theorem dX8_comes_11 : decode cX8_comes 11 = .ok (.iload_n 1, 1) := by decide +kernel
theorem dX8_comes_12 : decode cX8_comes 12 = .ok (.aload_n 0, 1) := by decide +kernel
theorem dX8_comes_13 : decode cX8_comes 13 = .ok (.getfield 137, 3) := by decide +kernel
theorem dX8_comes_16 : decode cX8_comes 16 = .ok (.iastore, 1) := by decide +kernel
theorem dX8_comes_17 : decode cX8_comes 17 = .ok (.iconst 0, 1) := by decide +kernel
theorem dX8_comes_18 : decode cX8_comes 18 = .ok (.istore_n 2, 1) := by decide +kernel
theorem dX8_comes_19 : decode cX8_comes 19 = .ok (.iload_n 2, 1) := by decide +kernel
theorem dX8_comes_20 : decode cX8_comes 20 = .ok (.bipush 6, 2) := by decide +kernel
theorem dX8_comes_22 : decode cX8_comes 22 = .ok (.if_icmp .ge 70, 3) := by decide +kernel
theorem dX8_comes_25 : decode cX8_comes 25 = .ok (.bipush 6, 2) := by decide +kernel
theorem dX8_comes_27 : decode cX8_comes 27 = .ok (.iload_n 1, 1) := by decide +kernel
theorem dX8_comes_28 : decode cX8_comes 28 = .ok (.imul, 1) := by decide +kernel
theorem dX8_comes_29 : decode cX8_comes 29 = .ok (.iload_n 2, 1) := by decide +kernel
theorem dX8_comes_30 : decode cX8_comes 30 = .ok (.iadd, 1) := by decide +kernel
theorem dX8_comes_31 : decode cX8_comes 31 = .ok (.istore_n 3, 1) := by decide +kernel
theorem dX8_comes_32 : decode cX8_comes 32 = .ok (.aload_n 0, 1) := by decide +kernel
theorem dX8_comes_33 : decode cX8_comes 33 = .ok (.getfield 64, 3) := by decide +kernel
theorem dX8_comes_36 : decode cX8_comes 36 = .ok (.iload_n 3, 1) := by decide +kernel
theorem dX8_comes_37 : decode cX8_comes 37 = .ok (.iaload, 1) := by decide +kernel
theorem dX8_comes_38 : decode cX8_comes 38 = .ok (.aload_n 0, 1) := by decide +kernel
theorem dX8_comes_39 : decode cX8_comes 39 = .ok (.getfield 67, 3) := by decide +kernel
theorem dX8_comes_42 : decode cX8_comes 42 = .ok (.iload_n 3, 1) := by decide +kernel
theorem dX8_comes_43 : decode cX8_comes 43 = .ok (.iaload, 1) := by decide +kernel
theorem dX8_comes_44 : decode cX8_comes 44 = .ok (.if_icmp .eq 10, 3) := by decide +kernel
theorem dX8_comes_47 : decode cX8_comes 47 = .ok (.aload_n 0, 1) := by decide +kernel
theorem dX8_comes_48 : decode cX8_comes 48 = .ok (.getfield 70, 3) := by decide +kernel
theorem dX8_comes_51 : decode cX8_comes 51 = .ok (.iload_n 1, 1) := by decide +kernel
theorem dX8_comes_52 : decode cX8_comes 52 = .ok (.iconst 1, 1) := by decide +kernel
theorem dX8_comes_53 : decode cX8_comes 53 = .ok (.bastore, 1) := by decide +kernel
theorem dX8_comes_54 : decode cX8_comes 54 = .ok (.aload_n 0, 1) := by decide +kernel
theorem dX8_comes_55 : decode cX8_comes 55 = .ok (.getfield 9, 3) := by decide +kernel
theorem dX8_comes_58 : decode cX8_comes 58 = .ok (.bipush 6, 2) := by decide +kernel
theorem dX8_comes_60 : decode cX8_comes 60 = .ok (.aload_n 0, 1) := by decide +kernel
theorem dX8_comes_61 : decode cX8_comes 61 = .ok (.getfield 43, 3) := by decide +kernel
theorem dX8_comes_64 : decode cX8_comes 64 = .ok (.iload_n 1, 1) := by decide +kernel
theorem dX8_comes_65 : decode cX8_comes 65 = .ok (.iaload, 1) := by decide +kernel
theorem dX8_comes_66 : decode cX8_comes 66 = .ok (.imul, 1) := by decide +kernel
theorem dX8_comes_67 : decode cX8_comes 67 = .ok (.iload_n 2, 1) := by decide +kernel
theorem dX8_comes_68 : decode cX8_comes 68 = .ok (.iadd, 1) := by decide +kernel
theorem dX8_comes_69 : decode cX8_comes 69 = .ok (.dup2, 1) := by decide +kernel
theorem dX8_comes_70 : decode cX8_comes 70 = .ok (.iaload, 1) := by decide +kernel
theorem dX8_comes_71 : decode cX8_comes 71 = .ok (.aload_n 0, 1) := by decide +kernel
theorem dX8_comes_72 : decode cX8_comes 72 = .ok (.getfield 64, 3) := by decide +kernel
theorem dX8_comes_75 : decode cX8_comes 75 = .ok (.iload_n 3, 1) := by decide +kernel
theorem dX8_comes_76 : decode cX8_comes 76 = .ok (.iaload, 1) := by decide +kernel
theorem dX8_comes_77 : decode cX8_comes 77 = .ok (.iadd, 1) := by decide +kernel
theorem dX8_comes_78 : decode cX8_comes 78 = .ok (.iastore, 1) := by decide +kernel
theorem dX8_comes_79 : decode cX8_comes 79 = .ok (.aload_n 0, 1) := by decide +kernel
theorem dX8_comes_80 : decode cX8_comes 80 = .ok (.getfield 64, 3) := by decide +kernel
theorem dX8_comes_83 : decode cX8_comes 83 = .ok (.iload_n 3, 1) := by decide +kernel
theorem dX8_comes_84 : decode cX8_comes 84 = .ok (.iconst 0, 1) := by decide +kernel
theorem dX8_comes_85 : decode cX8_comes 85 = .ok (.iastore, 1) := by decide +kernel
theorem dX8_comes_86 : decode cX8_comes 86 = .ok (.iinc 2 1, 3) := by decide +kernel
theorem dX8_comes_89 : decode cX8_comes 89 = .ok (.goto (-70), 3) := by decide +kernel
theorem dX8_comes_92 : decode cX8_comes 92 = .ok (.iconst 0, 1) := by decide +kernel
theorem dX8_comes_93 : decode cX8_comes 93 = .ok (.istore_n 2, 1) := by decide +kernel
theorem dX8_comes_94 : decode cX8_comes 94 = .ok (.iload_n 2, 1) := by decide +kernel
theorem dX8_comes_95 : decode cX8_comes 95 = .ok (.aload_n 0, 1) := by decide +kernel
theorem dX8_comes_96 : decode cX8_comes 96 = .ok (.getfield 144, 3) := by decide +kernel
theorem dX8_comes_99 : decode cX8_comes 99 = .ok (.if_icmp .ge 61, 3) := by decide +kernel
theorem dX8_comes_102 : decode cX8_comes 102 = .ok (.aload_n 0, 1) := by decide +kernel
theorem dX8_comes_103 : decode cX8_comes 103 = .ok (.getfield 80, 3) := by decide +kernel
theorem dX8_comes_106 : decode cX8_comes 106 = .ok (.iload_n 2, 1) := by decide +kernel
theorem dX8_comes_107 : decode cX8_comes 107 = .ok (.iaload, 1) := by decide +kernel
theorem dX8_comes_108 : decode cX8_comes 108 = .ok (.sipush 2000, 3) := by decide +kernel
theorem dX8_comes_111 : decode cX8_comes 111 = .ok (.iload_n 1, 1) := by decide +kernel
theorem dX8_comes_112 : decode cX8_comes 112 = .ok (.iadd, 1) := by decide +kernel
theorem dX8_comes_113 : decode cX8_comes 113 = .ok (.if_icmp .eq 6, 3) := by decide +kernel
theorem dX8_comes_116 : decode cX8_comes 116 = .ok (.goto 38, 3) := by decide +kernel
theorem dX8_comes_119 : decode cX8_comes 119 = .ok (.aload_n 0, 1) := by decide +kernel
theorem dX8_comes_120 : decode cX8_comes 120 = .ok (.getfield 77, 3) := by decide +kernel
theorem dX8_comes_123 : decode cX8_comes 123 = .ok (.iload_n 2, 1) := by decide +kernel
theorem dX8_comes_124 : decode cX8_comes 124 = .ok (.iaload, 1) := by decide +kernel
theorem dX8_comes_125 : decode cX8_comes 125 = .ok (.aload_n 0, 1) := by decide +kernel
theorem dX8_comes_126 : decode cX8_comes 126 = .ok (.getfield 43, 3) := by decide +kernel
theorem dX8_comes_129 : decode cX8_comes 129 = .ok (.iload_n 1, 1) := by decide +kernel
theorem dX8_comes_130 : decode cX8_comes 130 = .ok (.iaload, 1) := by decide +kernel
theorem dX8_comes_131 : decode cX8_comes 131 = .ok (.if_icmp .ne 11, 3) := by decide +kernel
theorem dX8_comes_134 : decode cX8_comes 134 = .ok (.aload_n 0, 1) := by decide +kernel
theorem dX8_comes_135 : decode cX8_comes 135 = .ok (.iload_n 2, 1) := by decide +kernel
theorem dX8_comes_136 : decode cX8_comes 136 = .ok (.invokevirtual 159, 3) := by decide +kernel
theorem dX8_comes_139 : decode cX8_comes 139 = .ok (.goto 15, 3) := by decide +kernel
theorem dX8_comes_142 : decode cX8_comes 142 = .ok (.aload_n 0, 1) := by decide +kernel
theorem dX8_comes_143 : decode cX8_comes 143 = .ok (.getfield 80, 3) := by decide +kernel
theorem dX8_comes_146 : decode cX8_comes 146 = .ok (.iload_n 2, 1) := by decide +kernel
theorem dX8_comes_147 : decode cX8_comes 147 = .ok (.aload_n 0, 1) := by decide +kernel
theorem dX8_comes_148 : decode cX8_comes 148 = .ok (.getfield 43, 3) := by decide +kernel
theorem dX8_comes_151 : decode cX8_comes 151 = .ok (.iload_n 1, 1) := by decide +kernel
theorem dX8_comes_152 : decode cX8_comes 152 = .ok (.iaload, 1) := by decide +kernel
theorem dX8_comes_153 : decode cX8_comes 153 = .ok (.iastore, 1) := by decide +kernel
theorem dX8_comes_154 : decode cX8_comes 154 = .ok (.iinc 2 1, 3) := by decide +kernel
theorem dX8_comes_157 : decode cX8_comes 157 = .ok (.goto (-63), 3) := by decide +kernel
theorem dX8_comes_160 : decode cX8_comes 160 = .ok (.return_, 1) := by decide +kernel
theorem dX8_reads_0 : decode cX8_reads 0 = .ok (.aload_n 0, 1) := by decide +kernel
theorem dX8_reads_1 : decode cX8_reads 1 = .ok (.getfield 77, 3) := by decide +kernel
theorem dX8_reads_4 : decode cX8_reads 4 = .ok (.iload_n 1, 1) := by decide +kernel
theorem dX8_reads_5 : decode cX8_reads 5 = .ok (.iaload, 1) := by decide +kernel
theorem dX8_reads_6 : decode cX8_reads 6 = .ok (.istore_n 2, 1) := by decide +kernel
theorem dX8_reads_7 : decode cX8_reads 7 = .ok (.aload_n 0, 1) := by decide +kernel
theorem dX8_reads_8 : decode cX8_reads 8 = .ok (.getfield 80, 3) := by decide +kernel
theorem dX8_reads_11 : decode cX8_reads 11 = .ok (.iload_n 1, 1) := by decide +kernel
theorem dX8_reads_12 : decode cX8_reads 12 = .ok (.sipush 1000, 3) := by decide +kernel
theorem dX8_reads_15 : decode cX8_reads 15 = .ok (.iastore, 1) := by decide +kernel
theorem dX8_reads_16 : decode cX8_reads 16 = .ok (.aload_n 0, 1) := by decide +kernel
theorem dX8_reads_17 : decode cX8_reads 17 = .ok (.getfield 74, 3) := by decide +kernel
theorem dX8_reads_20 : decode cX8_reads 20 = .ok (.iload_n 1, 1) := by decide +kernel
theorem dX8_reads_21 : decode cX8_reads 21 = .ok (.iaload, 1) := by decide +kernel
theorem dX8_reads_22 : decode cX8_reads 22 = .ok (.ifCond .ne 28, 3) := by decide +kernel
theorem dX8_reads_25 : decode cX8_reads 25 = .ok (.aload_n 0, 1) := by decide +kernel
theorem dX8_reads_26 : decode cX8_reads 26 = .ok (.getfield 13, 3) := by decide +kernel
theorem dX8_reads_29 : decode cX8_reads 29 = .ok (.bipush 6, 2) := by decide +kernel
theorem dX8_reads_31 : decode cX8_reads 31 = .ok (.iload_n 2, 1) := by decide +kernel
theorem dX8_reads_32 : decode cX8_reads 32 = .ok (.imul, 1) := by decide +kernel
theorem dX8_reads_33 : decode cX8_reads 33 = .ok (.aload_n 0, 1) := by decide +kernel
theorem dX8_reads_34 : decode cX8_reads 34 = .ok (.getfield 83, 3) := by decide +kernel
theorem dX8_reads_37 : decode cX8_reads 37 = .ok (.iload_n 1, 1) := by decide +kernel
theorem dX8_reads_38 : decode cX8_reads 38 = .ok (.iaload, 1) := by decide +kernel
theorem dX8_reads_39 : decode cX8_reads 39 = .ok (.iadd, 1) := by decide +kernel
theorem dX8_reads_40 : decode cX8_reads 40 = .ok (.aload_n 0, 1) := by decide +kernel
theorem dX8_reads_41 : decode cX8_reads 41 = .ok (.getfield 86, 3) := by decide +kernel
theorem dX8_reads_44 : decode cX8_reads 44 = .ok (.iload_n 1, 1) := by decide +kernel
theorem dX8_reads_45 : decode cX8_reads 45 = .ok (.iaload, 1) := by decide +kernel
theorem dX8_reads_46 : decode cX8_reads 46 = .ok (.iastore, 1) := by decide +kernel
theorem dX8_reads_47 : decode cX8_reads 47 = .ok (.goto 90, 3) := by decide +kernel
theorem dX8_reads_50 : decode cX8_reads 50 = .ok (.aload_n 0, 1) := by decide +kernel
theorem dX8_reads_51 : decode cX8_reads 51 = .ok (.getfield 74, 3) := by decide +kernel
theorem dX8_reads_54 : decode cX8_reads 54 = .ok (.iload_n 1, 1) := by decide +kernel
theorem dX8_reads_55 : decode cX8_reads 55 = .ok (.iaload, 1) := by decide +kernel
theorem dX8_reads_56 : decode cX8_reads 56 = .ok (.iconst 1, 1) := by decide +kernel
theorem dX8_reads_57 : decode cX8_reads 57 = .ok (.if_icmp .ne 31, 3) := by decide +kernel
theorem dX8_reads_60 : decode cX8_reads 60 = .ok (.aload_n 0, 1) := by decide +kernel
theorem dX8_reads_61 : decode cX8_reads 61 = .ok (.getfield 16, 3) := by decide +kernel
theorem dX8_reads_64 : decode cX8_reads 64 = .ok (.bipush 12, 2) := by decide +kernel
theorem dX8_reads_66 : decode cX8_reads 66 = .ok (.iload_n 2, 1) := by decide +kernel
theorem dX8_reads_67 : decode cX8_reads 67 = .ok (.imul, 1) := by decide +kernel
theorem dX8_reads_68 : decode cX8_reads 68 = .ok (.aload_n 0, 1) := by decide +kernel
theorem dX8_reads_69 : decode cX8_reads 69 = .ok (.getfield 83, 3) := by decide +kernel
theorem dX8_reads_72 : decode cX8_reads 72 = .ok (.iload_n 1, 1) := by decide +kernel
theorem dX8_reads_73 : decode cX8_reads 73 = .ok (.iaload, 1) := by decide +kernel
theorem dX8_reads_74 : decode cX8_reads 74 = .ok (.iadd, 1) := by decide +kernel
theorem dX8_reads_75 : decode cX8_reads 75 = .ok (.dup2, 1) := by decide +kernel
theorem dX8_reads_76 : decode cX8_reads 76 = .ok (.iaload, 1) := by decide +kernel
theorem dX8_reads_77 : decode cX8_reads 77 = .ok (.aload_n 0, 1) := by decide +kernel
theorem dX8_reads_78 : decode cX8_reads 78 = .ok (.getfield 86, 3) := by decide +kernel
theorem dX8_reads_81 : decode cX8_reads 81 = .ok (.iload_n 1, 1) := by decide +kernel
theorem dX8_reads_82 : decode cX8_reads 82 = .ok (.iaload, 1) := by decide +kernel
theorem dX8_reads_83 : decode cX8_reads 83 = .ok (.iadd, 1) := by decide +kernel
theorem dX8_reads_84 : decode cX8_reads 84 = .ok (.iastore, 1) := by decide +kernel
theorem dX8_reads_85 : decode cX8_reads 85 = .ok (.goto 52, 3) := by decide +kernel
theorem dX8_reads_88 : decode cX8_reads 88 = .ok (.bipush 8, 2) := by decide +kernel
theorem dX8_reads_90 : decode cX8_reads 90 = .ok (.iload_n 2, 1) := by decide +kernel
theorem dX8_reads_91 : decode cX8_reads 91 = .ok (.imul, 1) := by decide +kernel
theorem dX8_reads_92 : decode cX8_reads 92 = .ok (.aload_n 0, 1) := by decide +kernel
theorem dX8_reads_93 : decode cX8_reads 93 = .ok (.getfield 83, 3) := by decide +kernel
theorem dX8_reads_96 : decode cX8_reads 96 = .ok (.iload_n 1, 1) := by decide +kernel
theorem dX8_reads_97 : decode cX8_reads 97 = .ok (.iaload, 1) := by decide +kernel
theorem dX8_reads_98 : decode cX8_reads 98 = .ok (.iadd, 1) := by decide +kernel
theorem dX8_reads_99 : decode cX8_reads 99 = .ok (.istore_n 3, 1) := by decide +kernel
theorem dX8_reads_100 : decode cX8_reads 100 = .ok (.aload_n 0, 1) := by decide +kernel
theorem dX8_reads_101 : decode cX8_reads 101 = .ok (.getfield 92, 3) := by decide +kernel
theorem dX8_reads_104 : decode cX8_reads 104 = .ok (.iload_n 3, 1) := by decide +kernel
theorem dX8_reads_105 : decode cX8_reads 105 = .ok (.iaload, 1) := by decide +kernel
theorem dX8_reads_106 : decode cX8_reads 106 = .ok (.iconst (-1), 1) := by decide +kernel
theorem dX8_reads_107 : decode cX8_reads 107 = .ok (.if_icmp .eq 23, 3) := by decide +kernel
theorem dX8_reads_110 : decode cX8_reads 110 = .ok (.aload_n 0, 1) := by decide +kernel
theorem dX8_reads_111 : decode cX8_reads 111 = .ok (.getfield 86, 3) := by decide +kernel
theorem dX8_reads_114 : decode cX8_reads 114 = .ok (.iload_n 1, 1) := by decide +kernel
theorem dX8_reads_115 : decode cX8_reads 115 = .ok (.iaload, 1) := by decide +kernel
theorem dX8_reads_116 : decode cX8_reads 116 = .ok (.aload_n 0, 1) := by decide +kernel
theorem dX8_reads_117 : decode cX8_reads 117 = .ok (.getfield 86, 3) := by decide +kernel
theorem dX8_reads_120 : decode cX8_reads 120 = .ok (.aload_n 0, 1) := by decide +kernel
theorem dX8_reads_121 : decode cX8_reads 121 = .ok (.getfield 92, 3) := by decide +kernel
theorem dX8_reads_124 : decode cX8_reads 124 = .ok (.iload_n 3, 1) := by decide +kernel
theorem dX8_reads_125 : decode cX8_reads 125 = .ok (.iaload, 1) := by decide +kernel
theorem dX8_reads_126 : decode cX8_reads 126 = .ok (.iaload, 1) := by decide +kernel
theorem dX8_reads_127 : decode cX8_reads 127 = .ok (.if_icmp .lt 10, 3) := by decide +kernel
theorem dX8_reads_130 : decode cX8_reads 130 = .ok (.aload_n 0, 1) := by decide +kernel
theorem dX8_reads_131 : decode cX8_reads 131 = .ok (.getfield 92, 3) := by decide +kernel
theorem dX8_reads_134 : decode cX8_reads 134 = .ok (.iload_n 3, 1) := by decide +kernel
theorem dX8_reads_135 : decode cX8_reads 135 = .ok (.iload_n 1, 1) := by decide +kernel
theorem dX8_reads_136 : decode cX8_reads 136 = .ok (.iastore, 1) := by decide +kernel
theorem dX8_reads_137 : decode cX8_reads 137 = .ok (.return_, 1) := by decide +kernel
set_option maxRecDepth 20000 in
theorem ggX8_go_X8_in : GoodIn wsX8_go wsX8_in := goodIn_r _ [9] (by decide +kernel) (by decide +kernel)
set_option maxRecDepth 20000 in
theorem gX8_go_X8_in : GoodIn wsX8_go (va_wsS RX8 108 yX8_in wsX8_in) := goodIn_app (goodIn_of _ (by decide +kernel)) ggX8_go_X8_in
set_option maxRecDepth 20000 in
theorem ggX8_go_X8_isOpen : GoodIn wsX8_go wsX8_isOpen := goodIn_r _ [13, 14, 15, 6, 7, 8, 9, 39, 40, 41, 42, 43, 44, 45, 46, 47, 48, 49, 50, 51, 52, 53, 54, 55, 56, 57, 58, 59, 60, 61, 62, 63, 64, 65, 66, 67, 68, 69, 70, 71, 72, 73, 74, 75] (by decide +kernel) (by decide +kernel)
set_option maxRecDepth 20000 in
theorem gX8_go_X8_isOpen : GoodIn wsX8_go (wsV RX8 140 RX8 yX8_isOpen wsX8_isOpen) := goodIn_app (goodIn_of _ (by decide +kernel)) ggX8_go_X8_isOpen
set_option maxRecDepth 20000 in
theorem ggX8_go_X8_comes : GoodIn wsX8_go wsX8_comes := goodIn_r _ [19, 3, 20, 1, 21, 22, 23, 24, 25, 26, 27, 28, 29, 30, 31, 8, 32, 33, 34, 35, 36, 37, 38, 39, 40, 41, 42, 43, 44, 45, 46, 47, 48, 49, 50, 51, 52, 53, 54, 55, 56, 57, 58, 59, 60, 61, 62, 63, 64, 65, 66, 67, 68, 69, 70, 71, 72, 73, 74, 75] (by decide +kernel) (by decide +kernel)
set_option maxRecDepth 20000 in
theorem gX8_go_X8_comes : GoodIn wsX8_go (wsV RX8 163 RX8 yX8_comes wsX8_comes) := goodIn_app (goodIn_of _ (by decide +kernel)) ggX8_go_X8_comes
theorem dX8_go_0 : decode cX8_go 0 = .ok (.iload_n 1, 1) := by decide +kernel
theorem dX8_go_1 : decode cX8_go 1 = .ok (.iconst 0, 1) := by decide +kernel
theorem dX8_go_2 : decode cX8_go 2 = .ok (.sipush 400, 3) := by decide +kernel
theorem dX8_go_5 : decode cX8_go 5 = .ok (.invokestatic 108, 3) := by decide +kernel
theorem dX8_go_8 : decode cX8_go 8 = .ok (.ifCond .ne 5, 3) := by decide +kernel
theorem dX8_go_11 : decode cX8_go 11 = .ok (.iconst (-1), 1) := by decide +kernel
theorem dX8_go_12 : decode cX8_go 12 = .ok (.ireturn, 1) := by decide +kernel
theorem dX8_go_13 : decode cX8_go 13 = .ok (.iconst 0, 1) := by decide +kernel
theorem dX8_go_14 : decode cX8_go 14 = .ok (.istore_n 2, 1) := by decide +kernel
theorem dX8_go_15 : decode cX8_go 15 = .ok (.iload_n 2, 1) := by decide +kernel
theorem dX8_go_16 : decode cX8_go 16 = .ok (.iload_n 1, 1) := by decide +kernel
theorem dX8_go_17 : decode cX8_go 17 = .ok (.if_icmp .ge 98, 3) := by decide +kernel
theorem dX8_go_20 : decode cX8_go 20 = .ok (.aload_n 0, 1) := by decide +kernel
theorem dX8_go_21 : decode cX8_go 21 = .ok (.getfield 137, 3) := by decide +kernel
theorem dX8_go_24 : decode cX8_go 24 = .ok (.sipush 3000, 3) := by decide +kernel
theorem dX8_go_27 : decode cX8_go 27 = .ok (.if_icmp .ge 88, 3) := by decide +kernel
theorem dX8_go_30 : decode cX8_go 30 = .ok (.iconst 0, 1) := by decide +kernel
theorem dX8_go_31 : decode cX8_go 31 = .ok (.istore_n 3, 1) := by decide +kernel
theorem dX8_go_32 : decode cX8_go 32 = .ok (.iload_n 3, 1) := by decide +kernel
theorem dX8_go_33 : decode cX8_go 33 = .ok (.aload_n 0, 1) := by decide +kernel
theorem dX8_go_34 : decode cX8_go 34 = .ok (.getfield 112, 3) := by decide +kernel
theorem dX8_go_37 : decode cX8_go 37 = .ok (.if_icmp .ge 62, 3) := by decide +kernel
theorem dX8_go_40 : decode cX8_go 40 = .ok (.aload_n 0, 1) := by decide +kernel
theorem dX8_go_41 : decode cX8_go 41 = .ok (.getfield 52, 3) := by decide +kernel
theorem dX8_go_44 : decode cX8_go 44 = .ok (.iload_n 3, 1) := by decide +kernel
theorem dX8_go_45 : decode cX8_go 45 = .ok (.iaload, 1) := by decide +kernel
theorem dX8_go_46 : decode cX8_go 46 = .ok (.ifCond .ne 47, 3) := by decide +kernel
theorem dX8_go_49 : decode cX8_go 49 = .ok (.aload_n 0, 1) := by decide +kernel
theorem dX8_go_50 : decode cX8_go 50 = .ok (.aload_n 0, 1) := by decide +kernel
theorem dX8_go_51 : decode cX8_go 51 = .ok (.getfield 46, 3) := by decide +kernel
theorem dX8_go_54 : decode cX8_go 54 = .ok (.iload_n 3, 1) := by decide +kernel
theorem dX8_go_55 : decode cX8_go 55 = .ok (.iaload, 1) := by decide +kernel
theorem dX8_go_56 : decode cX8_go 56 = .ok (.aload_n 0, 1) := by decide +kernel
theorem dX8_go_57 : decode cX8_go 57 = .ok (.getfield 137, 3) := by decide +kernel
theorem dX8_go_60 : decode cX8_go 60 = .ok (.invokevirtual 140, 3) := by decide +kernel
theorem dX8_go_63 : decode cX8_go 63 = .ok (.ifCond .ne 6, 3) := by decide +kernel
theorem dX8_go_66 : decode cX8_go 66 = .ok (.goto 27, 3) := by decide +kernel
theorem dX8_go_69 : decode cX8_go 69 = .ok (.aload_n 0, 1) := by decide +kernel
theorem dX8_go_70 : decode cX8_go 70 = .ok (.getfield 49, 3) := by decide +kernel
theorem dX8_go_73 : decode cX8_go 73 = .ok (.iload_n 3, 1) := by decide +kernel
theorem dX8_go_74 : decode cX8_go 74 = .ok (.dup2, 1) := by decide +kernel
theorem dX8_go_75 : decode cX8_go 75 = .ok (.iaload, 1) := by decide +kernel
theorem dX8_go_76 : decode cX8_go 76 = .ok (.iconst 1, 1) := by decide +kernel
theorem dX8_go_77 : decode cX8_go 77 = .ok (.isub, 1) := by decide +kernel
theorem dX8_go_78 : decode cX8_go 78 = .ok (.iastore, 1) := by decide +kernel
theorem dX8_go_79 : decode cX8_go 79 = .ok (.aload_n 0, 1) := by decide +kernel
theorem dX8_go_80 : decode cX8_go 80 = .ok (.getfield 49, 3) := by decide +kernel
theorem dX8_go_83 : decode cX8_go 83 = .ok (.iload_n 3, 1) := by decide +kernel
theorem dX8_go_84 : decode cX8_go 84 = .ok (.iaload, 1) := by decide +kernel
theorem dX8_go_85 : decode cX8_go 85 = .ok (.ifCond .ne 8, 3) := by decide +kernel
theorem dX8_go_88 : decode cX8_go 88 = .ok (.aload_n 0, 1) := by decide +kernel
theorem dX8_go_89 : decode cX8_go 89 = .ok (.iload_n 3, 1) := by decide +kernel
theorem dX8_go_90 : decode cX8_go 90 = .ok (.invokevirtual 163, 3) := by decide +kernel
theorem dX8_go_93 : decode cX8_go 93 = .ok (.iinc 3 1, 3) := by decide +kernel
theorem dX8_go_96 : decode cX8_go 96 = .ok (.goto (-64), 3) := by decide +kernel
theorem dX8_go_99 : decode cX8_go 99 = .ok (.aload_n 0, 1) := by decide +kernel
theorem dX8_go_100 : decode cX8_go 100 = .ok (.dup, 1) := by decide +kernel
theorem dX8_go_101 : decode cX8_go 101 = .ok (.getfield 137, 3) := by decide +kernel
theorem dX8_go_104 : decode cX8_go 104 = .ok (.iconst 1, 1) := by decide +kernel
theorem dX8_go_105 : decode cX8_go 105 = .ok (.iadd, 1) := by decide +kernel
theorem dX8_go_106 : decode cX8_go 106 = .ok (.putfield 137, 3) := by decide +kernel
theorem dX8_go_109 : decode cX8_go 109 = .ok (.iinc 2 1, 3) := by decide +kernel
theorem dX8_go_112 : decode cX8_go 112 = .ok (.goto (-97), 3) := by decide +kernel
theorem dX8_go_115 : decode cX8_go 115 = .ok (.aload_n 0, 1) := by decide +kernel
theorem dX8_go_116 : decode cX8_go 116 = .ok (.getfield 137, 3) := by decide +kernel
theorem dX8_go_119 : decode cX8_go 119 = .ok (.ireturn, 1) := by decide +kernel
set_option maxRecDepth 20000 in
theorem ggX8_isDeal_X8_isPost : GoodIn wsX8_isDeal wsX8_isPost := goodIn_r _ [5, 6, 7, 8, 4, 9, 13, 14, 15, 16, 17, 18, 19, 20, 21, 22, 23, 24, 25, 26, 27, 28, 29, 30, 31, 32, 33, 34, 35, 36, 37, 38, 39, 40, 41, 42, 43, 44, 45, 46, 47, 48, 49] (by decide +kernel) (by decide +kernel)
set_option maxRecDepth 20000 in
theorem gX8_isDeal_X8_isPost : GoodIn wsX8_isDeal (wsV RX8 119 RX8 yX8_isPost wsX8_isPost) := goodIn_app (goodIn_of _ (by decide +kernel)) ggX8_isDeal_X8_isPost
set_option maxRecDepth 20000 in
theorem ggX8_isDeal_X8_in : GoodIn wsX8_isDeal wsX8_in := goodIn_r _ [9] (by decide +kernel) (by decide +kernel)
set_option maxRecDepth 20000 in
theorem gX8_isDeal_X8_in : GoodIn wsX8_isDeal (va_wsS RX8 108 yX8_in wsX8_in) := goodIn_app (goodIn_of _ (by decide +kernel)) ggX8_isDeal_X8_in
set_option maxRecDepth 20000 in
theorem ggX8_isDeal_X8_isWare : GoodIn wsX8_isDeal wsX8_isWare := goodIn_r _ [12, 7, 8, 4, 9] (by decide +kernel) (by decide +kernel)
set_option maxRecDepth 20000 in
theorem gX8_isDeal_X8_isWare : GoodIn wsX8_isDeal (va_wsS RX8 127 yX8_isWare wsX8_isWare) := goodIn_app (goodIn_of _ (by decide +kernel)) ggX8_isDeal_X8_isWare
theorem dX8_isDeal_0 : decode cX8_isDeal 0 = .ok (.aload_n 0, 1) := by decide +kernel
theorem dX8_isDeal_1 : decode cX8_isDeal 1 = .ok (.iload_n 1, 1) := by decide +kernel
theorem dX8_isDeal_2 : decode cX8_isDeal 2 = .ok (.invokevirtual 119, 3) := by decide +kernel
theorem dX8_isDeal_5 : decode cX8_isDeal 5 = .ok (.ifCond .eq 36, 3) := by decide +kernel
theorem dX8_isDeal_8 : decode cX8_isDeal 8 = .ok (.iload_n 2, 1) := by decide +kernel
theorem dX8_isDeal_9 : decode cX8_isDeal 9 = .ok (.iconst 0, 1) := by decide +kernel
theorem dX8_isDeal_10 : decode cX8_isDeal 10 = .ok (.bipush 11, 2) := by decide +kernel
theorem dX8_isDeal_12 : decode cX8_isDeal 12 = .ok (.invokestatic 108, 3) := by decide +kernel
theorem dX8_isDeal_15 : decode cX8_isDeal 15 = .ok (.ifCond .eq 26, 3) := by decide +kernel
theorem dX8_isDeal_18 : decode cX8_isDeal 18 = .ok (.iload_n 3, 1) := by decide +kernel
theorem dX8_isDeal_19 : decode cX8_isDeal 19 = .ok (.invokestatic 127, 3) := by decide +kernel
theorem dX8_isDeal_22 : decode cX8_isDeal 22 = .ok (.ifCond .eq 19, 3) := by decide +kernel
theorem dX8_isDeal_25 : decode cX8_isDeal 25 = .ok (.iload 4, 2) := by decide +kernel
theorem dX8_isDeal_27 : decode cX8_isDeal 27 = .ok (.iconst 1, 1) := by decide +kernel
theorem dX8_isDeal_28 : decode cX8_isDeal 28 = .ok (.sipush 1000, 3) := by decide +kernel
theorem dX8_isDeal_31 : decode cX8_isDeal 31 = .ok (.invokestatic 108, 3) := by decide +kernel
theorem dX8_isDeal_34 : decode cX8_isDeal 34 = .ok (.ifCond .eq 7, 3) := by decide +kernel
theorem dX8_isDeal_37 : decode cX8_isDeal 37 = .ok (.iconst 1, 1) := by decide +kernel
theorem dX8_isDeal_38 : decode cX8_isDeal 38 = .ok (.goto 4, 3) := by decide +kernel
theorem dX8_isDeal_41 : decode cX8_isDeal 41 = .ok (.iconst 0, 1) := by decide +kernel
theorem dX8_isDeal_42 : decode cX8_isDeal 42 = .ok (.ireturn, 1) := by decide +kernel
set_option maxRecDepth 20000 in
theorem ggX8_sell_X8_isDeal : GoodIn wsX8_sell wsX8_isDeal := goodIn_r _ [9, 10, 11, 12, 8, 13, 14, 15, 16, 17, 18, 19, 20, 30, 31, 32, 33, 34, 35, 36, 37, 38, 39, 40, 41, 42, 43, 44, 45, 46, 47, 48, 49, 50, 51, 52, 53, 54, 55, 56, 57, 58, 59, 60, 61, 62, 63, 64, 65, 66] (by decide +kernel) (by decide +kernel)
set_option maxRecDepth 20000 in
theorem gX8_sell_X8_isDeal : GoodIn wsX8_sell (wsV RX8 166 RX8 yX8_isDeal wsX8_isDeal) := goodIn_app (goodIn_of _ (by decide +kernel)) ggX8_sell_X8_isDeal
set_option maxRecDepth 20000 in
theorem ggX8_sell_X8_stored : GoodIn wsX8_sell wsX8_stored := goodIn_r _ [24, 4, 30, 31, 32, 33, 34, 35, 36, 37, 38, 39, 40, 41, 42, 43, 44, 45, 46, 47, 48, 49, 50, 51, 52, 53, 54, 55, 56, 57, 58, 59, 60, 61, 62, 63, 64, 65, 66] (by decide +kernel) (by decide +kernel)
set_option maxRecDepth 20000 in
theorem gX8_sell_X8_stored : GoodIn wsX8_sell (wsV RX8 130 RX8 yX8_stored wsX8_stored) := goodIn_app (goodIn_of _ (by decide +kernel)) ggX8_sell_X8_stored
set_option maxRecDepth 20000 in
theorem ggX8_sell_X8_sums : GoodIn wsX8_sell wsX8_sums := goodIn_r _ [28, 29, 30, 31, 32, 33, 34, 35, 36, 37, 38, 39, 40, 41, 42, 43, 44, 45, 46, 47, 48, 49, 50, 51, 52, 53, 54, 55, 56, 57, 58, 59, 60, 61, 62, 63, 64, 65, 66] (by decide +kernel) (by decide +kernel)
set_option maxRecDepth 20000 in
theorem gX8_sell_X8_sums : GoodIn wsX8_sell (wsV RX8 134 RX8 yX8_sums wsX8_sums) := goodIn_app (goodIn_of _ (by decide +kernel)) ggX8_sell_X8_sums
theorem dX8_sell_0 : decode cX8_sell 0 = .ok (.aload_n 0, 1) := by decide +kernel
theorem dX8_sell_1 : decode cX8_sell 1 = .ok (.iload_n 1, 1) := by decide +kernel
theorem dX8_sell_2 : decode cX8_sell 2 = .ok (.iload_n 2, 1) := by decide +kernel
theorem dX8_sell_3 : decode cX8_sell 3 = .ok (.iload_n 3, 1) := by decide +kernel
theorem dX8_sell_4 : decode cX8_sell 4 = .ok (.iload 4, 2) := by decide +kernel
theorem dX8_sell_6 : decode cX8_sell 6 = .ok (.invokevirtual 166, 3) := by decide +kernel
theorem dX8_sell_9 : decode cX8_sell 9 = .ok (.ifCond .eq 14, 3) := by decide +kernel
theorem dX8_sell_12 : decode cX8_sell 12 = .ok (.aload_n 0, 1) := by decide +kernel
theorem dX8_sell_13 : decode cX8_sell 13 = .ok (.iload_n 1, 1) := by decide +kernel
theorem dX8_sell_14 : decode cX8_sell 14 = .ok (.iload_n 3, 1) := by decide +kernel
theorem dX8_sell_15 : decode cX8_sell 15 = .ok (.invokevirtual 130, 3) := by decide +kernel
theorem dX8_sell_18 : decode cX8_sell 18 = .ok (.iload 4, 2) := by decide +kernel
theorem dX8_sell_20 : decode cX8_sell 20 = .ok (.if_icmp .ge 5, 3) := by decide +kernel
theorem dX8_sell_23 : decode cX8_sell 23 = .ok (.iconst (-1), 1) := by decide +kernel
theorem dX8_sell_24 : decode cX8_sell 24 = .ok (.ireturn, 1) := by decide +kernel
theorem dX8_sell_25 : decode cX8_sell 25 = .ok (.bipush 12, 2) := by decide +kernel
theorem dX8_sell_27 : decode cX8_sell 27 = .ok (.iload_n 1, 1) := by decide +kernel
theorem dX8_sell_28 : decode cX8_sell 28 = .ok (.imul, 1) := by decide +kernel
theorem dX8_sell_29 : decode cX8_sell 29 = .ok (.iload_n 2, 1) := by decide +kernel
theorem dX8_sell_30 : decode cX8_sell 30 = .ok (.iadd, 1) := by decide +kernel
theorem dX8_sell_31 : decode cX8_sell 31 = .ok (.istore 5, 2) := by decide +kernel
theorem dX8_sell_33 : decode cX8_sell 33 = .ok (.aload_n 0, 1) := by decide +kernel
theorem dX8_sell_34 : decode cX8_sell 34 = .ok (.getfield 16, 3) := by decide +kernel
theorem dX8_sell_37 : decode cX8_sell 37 = .ok (.iload 5, 2) := by decide +kernel
theorem dX8_sell_39 : decode cX8_sell 39 = .ok (.iaload, 1) := by decide +kernel
theorem dX8_sell_40 : decode cX8_sell 40 = .ok (.iload 4, 2) := by decide +kernel
theorem dX8_sell_42 : decode cX8_sell 42 = .ok (.aload_n 0, 1) := by decide +kernel
theorem dX8_sell_43 : decode cX8_sell 43 = .ok (.getfield 13, 3) := by decide +kernel
theorem dX8_sell_46 : decode cX8_sell 46 = .ok (.bipush 6, 2) := by decide +kernel
theorem dX8_sell_48 : decode cX8_sell 48 = .ok (.iload_n 1, 1) := by decide +kernel
theorem dX8_sell_49 : decode cX8_sell 49 = .ok (.imul, 1) := by decide +kernel
theorem dX8_sell_50 : decode cX8_sell 50 = .ok (.iload_n 3, 1) := by decide +kernel
theorem dX8_sell_51 : decode cX8_sell 51 = .ok (.iadd, 1) := by decide +kernel
theorem dX8_sell_52 : decode cX8_sell 52 = .ok (.iaload, 1) := by decide +kernel
theorem dX8_sell_53 : decode cX8_sell 53 = .ok (.imul, 1) := by decide +kernel
theorem dX8_sell_54 : decode cX8_sell 54 = .ok (.iadd, 1) := by decide +kernel
theorem dX8_sell_55 : decode cX8_sell 55 = .ok (.istore 6, 2) := by decide +kernel
theorem dX8_sell_57 : decode cX8_sell 57 = .ok (.iload 6, 2) := by decide +kernel
theorem dX8_sell_59 : decode cX8_sell 59 = .ok (.ldc 133, 2) := by decide +kernel
theorem dX8_sell_61 : decode cX8_sell 61 = .ok (.if_icmp .le 5, 3) := by decide +kernel
theorem dX8_sell_64 : decode cX8_sell 64 = .ok (.iconst (-1), 1) := by decide +kernel
theorem dX8_sell_65 : decode cX8_sell 65 = .ok (.ireturn, 1) := by decide +kernel
theorem dX8_sell_66 : decode cX8_sell 66 = .ok (.aload_n 0, 1) := by decide +kernel
theorem dX8_sell_67 : decode cX8_sell 67 = .ok (.getfield 16, 3) := by decide +kernel
end
section
theorem dX8_sell_70 : decode cX8_sell 70 = .ok (.iload 5, 2) := by decide +kernel
theorem dX8_sell_72 : decode cX8_sell 72 = .ok (.iload 6, 2) := by decide +kernel
theorem dX8_sell_74 : decode cX8_sell 74 = .ok (.iastore, 1) := by decide +kernel
theorem dX8_sell_75 : decode cX8_sell 75 = .ok (.aload_n 0, 1) := by decide +kernel
theorem dX8_sell_76 : decode cX8_sell 76 = .ok (.getfield 9, 3) := by decide +kernel
theorem dX8_sell_79 : decode cX8_sell 79 = .ok (.bipush 6, 2) := by decide +kernel
theorem dX8_sell_81 : decode cX8_sell 81 = .ok (.iload_n 1, 1) := by decide +kernel
theorem dX8_sell_82 : decode cX8_sell 82 = .ok (.imul, 1) := by decide +kernel
theorem dX8_sell_83 : decode cX8_sell 83 = .ok (.iload_n 3, 1) := by decide +kernel
theorem dX8_sell_84 : decode cX8_sell 84 = .ok (.iadd, 1) := by decide +kernel
theorem dX8_sell_85 : decode cX8_sell 85 = .ok (.dup2, 1) := by decide +kernel
theorem dX8_sell_86 : decode cX8_sell 86 = .ok (.iaload, 1) := by decide +kernel
theorem dX8_sell_87 : decode cX8_sell 87 = .ok (.iload 4, 2) := by decide +kernel
theorem dX8_sell_89 : decode cX8_sell 89 = .ok (.isub, 1) := by decide +kernel
theorem dX8_sell_90 : decode cX8_sell 90 = .ok (.iastore, 1) := by decide +kernel
theorem dX8_sell_91 : decode cX8_sell 91 = .ok (.aload_n 0, 1) := by decide +kernel
theorem dX8_sell_92 : decode cX8_sell 92 = .ok (.iconst 1, 1) := by decide +kernel
theorem dX8_sell_93 : decode cX8_sell 93 = .ok (.iload_n 3, 1) := by decide +kernel
theorem dX8_sell_94 : decode cX8_sell 94 = .ok (.iload 4, 2) := by decide +kernel
theorem dX8_sell_96 : decode cX8_sell 96 = .ok (.invokevirtual 134, 3) := by decide +kernel
theorem dX8_sell_99 : decode cX8_sell 99 = .ok (.iload 6, 2) := by decide +kernel
theorem dX8_sell_101 : decode cX8_sell 101 = .ok (.ireturn, 1) := by decide +kernel
set_option maxRecDepth 20000 in
theorem ggX8_buy_X8_isDeal : GoodIn wsX8_buy wsX8_isDeal := goodIn_r _ [10, 11, 12, 13, 9, 14, 15, 16, 17, 18, 19, 20, 21, 31, 32, 33, 34, 35, 36, 37, 38, 39, 40, 41, 42, 43, 44, 45, 46, 47, 48, 49, 50, 51, 52, 53, 54, 55, 56, 57, 58, 59, 60, 61, 62, 63, 64, 65, 66, 67] (by decide +kernel) (by decide +kernel)
set_option maxRecDepth 20000 in
theorem gX8_buy_X8_isDeal : GoodIn wsX8_buy (wsV RX8 166 RX8 yX8_isDeal wsX8_isDeal) := goodIn_app (goodIn_of _ (by decide +kernel)) ggX8_buy_X8_isDeal
set_option maxRecDepth 20000 in
theorem ggX8_buy_X8_stored : GoodIn wsX8_buy wsX8_stored := goodIn_r _ [25, 5, 31, 32, 33, 34, 35, 36, 37, 38, 39, 40, 41, 42, 43, 44, 45, 46, 47, 48, 49, 50, 51, 52, 53, 54, 55, 56, 57, 58, 59, 60, 61, 62, 63, 64, 65, 66, 67] (by decide +kernel) (by decide +kernel)
set_option maxRecDepth 20000 in
theorem gX8_buy_X8_stored : GoodIn wsX8_buy (wsV RX8 130 RX8 yX8_stored wsX8_stored) := goodIn_app (goodIn_of _ (by decide +kernel)) ggX8_buy_X8_stored
set_option maxRecDepth 20000 in
theorem ggX8_buy_X8_sums : GoodIn wsX8_buy wsX8_sums := goodIn_r _ [29, 30, 31, 32, 33, 34, 35, 36, 37, 38, 39, 40, 41, 42, 43, 44, 45, 46, 47, 48, 49, 50, 51, 52, 53, 54, 55, 56, 57, 58, 59, 60, 61, 62, 63, 64, 65, 66, 67] (by decide +kernel) (by decide +kernel)
set_option maxRecDepth 20000 in
theorem gX8_buy_X8_sums : GoodIn wsX8_buy (wsV RX8 134 RX8 yX8_sums wsX8_sums) := goodIn_app (goodIn_of _ (by decide +kernel)) ggX8_buy_X8_sums
theorem dX8_buy_0 : decode cX8_buy 0 = .ok (.aload_n 0, 1) := by decide +kernel
theorem dX8_buy_1 : decode cX8_buy 1 = .ok (.iload_n 1, 1) := by decide +kernel
theorem dX8_buy_2 : decode cX8_buy 2 = .ok (.iload_n 2, 1) := by decide +kernel
theorem dX8_buy_3 : decode cX8_buy 3 = .ok (.iload_n 3, 1) := by decide +kernel
theorem dX8_buy_4 : decode cX8_buy 4 = .ok (.iload 4, 2) := by decide +kernel
theorem dX8_buy_6 : decode cX8_buy 6 = .ok (.invokevirtual 166, 3) := by decide +kernel
theorem dX8_buy_9 : decode cX8_buy 9 = .ok (.ifCond .eq 17, 3) := by decide +kernel
theorem dX8_buy_12 : decode cX8_buy 12 = .ok (.aload_n 0, 1) := by decide +kernel
theorem dX8_buy_13 : decode cX8_buy 13 = .ok (.iload_n 1, 1) := by decide +kernel
theorem dX8_buy_14 : decode cX8_buy 14 = .ok (.iload_n 3, 1) := by decide +kernel
theorem dX8_buy_15 : decode cX8_buy 15 = .ok (.invokevirtual 130, 3) := by decide +kernel
theorem dX8_buy_18 : decode cX8_buy 18 = .ok (.iload 4, 2) := by decide +kernel
theorem dX8_buy_20 : decode cX8_buy 20 = .ok (.iadd, 1) := by decide +kernel
theorem dX8_buy_21 : decode cX8_buy 21 = .ok (.ldc 133, 2) := by decide +kernel
theorem dX8_buy_23 : decode cX8_buy 23 = .ok (.if_icmp .le 5, 3) := by decide +kernel
theorem dX8_buy_26 : decode cX8_buy 26 = .ok (.iconst (-1), 1) := by decide +kernel
theorem dX8_buy_27 : decode cX8_buy 27 = .ok (.ireturn, 1) := by decide +kernel
theorem dX8_buy_28 : decode cX8_buy 28 = .ok (.bipush 12, 2) := by decide +kernel
theorem dX8_buy_30 : decode cX8_buy 30 = .ok (.iload_n 1, 1) := by decide +kernel
theorem dX8_buy_31 : decode cX8_buy 31 = .ok (.imul, 1) := by decide +kernel
theorem dX8_buy_32 : decode cX8_buy 32 = .ok (.iload_n 2, 1) := by decide +kernel
theorem dX8_buy_33 : decode cX8_buy 33 = .ok (.iadd, 1) := by decide +kernel
theorem dX8_buy_34 : decode cX8_buy 34 = .ok (.istore 5, 2) := by decide +kernel
theorem dX8_buy_36 : decode cX8_buy 36 = .ok (.aload_n 0, 1) := by decide +kernel
theorem dX8_buy_37 : decode cX8_buy 37 = .ok (.getfield 16, 3) := by decide +kernel
theorem dX8_buy_40 : decode cX8_buy 40 = .ok (.iload 5, 2) := by decide +kernel
theorem dX8_buy_42 : decode cX8_buy 42 = .ok (.iaload, 1) := by decide +kernel
theorem dX8_buy_43 : decode cX8_buy 43 = .ok (.iload 4, 2) := by decide +kernel
theorem dX8_buy_45 : decode cX8_buy 45 = .ok (.aload_n 0, 1) := by decide +kernel
theorem dX8_buy_46 : decode cX8_buy 46 = .ok (.getfield 13, 3) := by decide +kernel
theorem dX8_buy_49 : decode cX8_buy 49 = .ok (.bipush 6, 2) := by decide +kernel
theorem dX8_buy_51 : decode cX8_buy 51 = .ok (.iload_n 1, 1) := by decide +kernel
theorem dX8_buy_52 : decode cX8_buy 52 = .ok (.imul, 1) := by decide +kernel
theorem dX8_buy_53 : decode cX8_buy 53 = .ok (.iload_n 3, 1) := by decide +kernel
theorem dX8_buy_54 : decode cX8_buy 54 = .ok (.iadd, 1) := by decide +kernel
theorem dX8_buy_55 : decode cX8_buy 55 = .ok (.iaload, 1) := by decide +kernel
theorem dX8_buy_56 : decode cX8_buy 56 = .ok (.imul, 1) := by decide +kernel
theorem dX8_buy_57 : decode cX8_buy 57 = .ok (.isub, 1) := by decide +kernel
theorem dX8_buy_58 : decode cX8_buy 58 = .ok (.istore 6, 2) := by decide +kernel
theorem dX8_buy_60 : decode cX8_buy 60 = .ok (.iload 6, 2) := by decide +kernel
theorem dX8_buy_62 : decode cX8_buy 62 = .ok (.ldc 170, 2) := by decide +kernel
theorem dX8_buy_64 : decode cX8_buy 64 = .ok (.if_icmp .ge 5, 3) := by decide +kernel
theorem dX8_buy_67 : decode cX8_buy 67 = .ok (.iconst (-1), 1) := by decide +kernel
theorem dX8_buy_68 : decode cX8_buy 68 = .ok (.ireturn, 1) := by decide +kernel
theorem dX8_buy_69 : decode cX8_buy 69 = .ok (.aload_n 0, 1) := by decide +kernel
theorem dX8_buy_70 : decode cX8_buy 70 = .ok (.getfield 16, 3) := by decide +kernel
theorem dX8_buy_73 : decode cX8_buy 73 = .ok (.iload 5, 2) := by decide +kernel
theorem dX8_buy_75 : decode cX8_buy 75 = .ok (.iload 6, 2) := by decide +kernel
theorem dX8_buy_77 : decode cX8_buy 77 = .ok (.iastore, 1) := by decide +kernel
theorem dX8_buy_78 : decode cX8_buy 78 = .ok (.aload_n 0, 1) := by decide +kernel
theorem dX8_buy_79 : decode cX8_buy 79 = .ok (.getfield 9, 3) := by decide +kernel
theorem dX8_buy_82 : decode cX8_buy 82 = .ok (.bipush 6, 2) := by decide +kernel
theorem dX8_buy_84 : decode cX8_buy 84 = .ok (.iload_n 1, 1) := by decide +kernel
theorem dX8_buy_85 : decode cX8_buy 85 = .ok (.imul, 1) := by decide +kernel
theorem dX8_buy_86 : decode cX8_buy 86 = .ok (.iload_n 3, 1) := by decide +kernel
theorem dX8_buy_87 : decode cX8_buy 87 = .ok (.iadd, 1) := by decide +kernel
theorem dX8_buy_88 : decode cX8_buy 88 = .ok (.dup2, 1) := by decide +kernel
theorem dX8_buy_89 : decode cX8_buy 89 = .ok (.iaload, 1) := by decide +kernel
theorem dX8_buy_90 : decode cX8_buy 90 = .ok (.iload 4, 2) := by decide +kernel
theorem dX8_buy_92 : decode cX8_buy 92 = .ok (.iadd, 1) := by decide +kernel
theorem dX8_buy_93 : decode cX8_buy 93 = .ok (.iastore, 1) := by decide +kernel
theorem dX8_buy_94 : decode cX8_buy 94 = .ok (.aload_n 0, 1) := by decide +kernel
theorem dX8_buy_95 : decode cX8_buy 95 = .ok (.iconst 2, 1) := by decide +kernel
theorem dX8_buy_96 : decode cX8_buy 96 = .ok (.iload_n 3, 1) := by decide +kernel
theorem dX8_buy_97 : decode cX8_buy 97 = .ok (.iload 4, 2) := by decide +kernel
theorem dX8_buy_99 : decode cX8_buy 99 = .ok (.invokevirtual 134, 3) := by decide +kernel
theorem dX8_buy_102 : decode cX8_buy 102 = .ok (.iload 6, 2) := by decide +kernel
theorem dX8_buy_104 : decode cX8_buy 104 = .ok (.ireturn, 1) := by decide +kernel
set_option maxRecDepth 20000 in
theorem ggX8_give_X8_isDeal : GoodIn wsX8_give wsX8_isDeal := goodIn_r _ [6, 7, 8, 9, 5, 10, 11, 12, 13, 14, 15, 16, 17, 27, 28, 29, 30, 31, 32, 33, 34, 35, 36, 37, 38, 39, 40, 41, 42, 43, 44, 45, 46, 47, 48, 49, 50, 51, 52, 53, 54, 55, 56, 57, 58, 59, 60, 61, 62, 63] (by decide +kernel) (by decide +kernel)
set_option maxRecDepth 20000 in
theorem gX8_give_X8_isDeal : GoodIn wsX8_give (wsV RX8 166 RX8 yX8_isDeal wsX8_isDeal) := goodIn_app (goodIn_of _ (by decide +kernel)) ggX8_give_X8_isDeal
set_option maxRecDepth 20000 in
theorem ggX8_give_X8_stored : GoodIn wsX8_give wsX8_stored := goodIn_r _ [21, 1, 27, 28, 29, 30, 31, 32, 33, 34, 35, 36, 37, 38, 39, 40, 41, 42, 43, 44, 45, 46, 47, 48, 49, 50, 51, 52, 53, 54, 55, 56, 57, 58, 59, 60, 61, 62, 63] (by decide +kernel) (by decide +kernel)
set_option maxRecDepth 20000 in
theorem gX8_give_X8_stored : GoodIn wsX8_give (wsV RX8 130 RX8 yX8_stored wsX8_stored) := goodIn_app (goodIn_of _ (by decide +kernel)) ggX8_give_X8_stored
set_option maxRecDepth 20000 in
theorem ggX8_give_X8_sums : GoodIn wsX8_give wsX8_sums := goodIn_r _ [25, 26, 27, 28, 29, 30, 31, 32, 33, 34, 35, 36, 37, 38, 39, 40, 41, 42, 43, 44, 45, 46, 47, 48, 49, 50, 51, 52, 53, 54, 55, 56, 57, 58, 59, 60, 61, 62, 63] (by decide +kernel) (by decide +kernel)
set_option maxRecDepth 20000 in
theorem gX8_give_X8_sums : GoodIn wsX8_give (wsV RX8 134 RX8 yX8_sums wsX8_sums) := goodIn_app (goodIn_of _ (by decide +kernel)) ggX8_give_X8_sums
theorem dX8_give_0 : decode cX8_give 0 = .ok (.aload_n 0, 1) := by decide +kernel
theorem dX8_give_1 : decode cX8_give 1 = .ok (.iload_n 1, 1) := by decide +kernel
theorem dX8_give_2 : decode cX8_give 2 = .ok (.iload_n 2, 1) := by decide +kernel
theorem dX8_give_3 : decode cX8_give 3 = .ok (.iload_n 3, 1) := by decide +kernel
theorem dX8_give_4 : decode cX8_give 4 = .ok (.iload 4, 2) := by decide +kernel
theorem dX8_give_6 : decode cX8_give 6 = .ok (.invokevirtual 166, 3) := by decide +kernel
theorem dX8_give_9 : decode cX8_give 9 = .ok (.ifCond .eq 14, 3) := by decide +kernel
theorem dX8_give_12 : decode cX8_give 12 = .ok (.aload_n 0, 1) := by decide +kernel
theorem dX8_give_13 : decode cX8_give 13 = .ok (.iload_n 1, 1) := by decide +kernel
theorem dX8_give_14 : decode cX8_give 14 = .ok (.iload_n 3, 1) := by decide +kernel
theorem dX8_give_15 : decode cX8_give 15 = .ok (.invokevirtual 130, 3) := by decide +kernel
theorem dX8_give_18 : decode cX8_give 18 = .ok (.iload 4, 2) := by decide +kernel
theorem dX8_give_20 : decode cX8_give 20 = .ok (.if_icmp .ge 5, 3) := by decide +kernel
theorem dX8_give_23 : decode cX8_give 23 = .ok (.iconst (-1), 1) := by decide +kernel
theorem dX8_give_24 : decode cX8_give 24 = .ok (.ireturn, 1) := by decide +kernel
theorem dX8_give_25 : decode cX8_give 25 = .ok (.aload_n 0, 1) := by decide +kernel
theorem dX8_give_26 : decode cX8_give 26 = .ok (.getfield 9, 3) := by decide +kernel
theorem dX8_give_29 : decode cX8_give 29 = .ok (.bipush 6, 2) := by decide +kernel
theorem dX8_give_31 : decode cX8_give 31 = .ok (.iload_n 1, 1) := by decide +kernel
theorem dX8_give_32 : decode cX8_give 32 = .ok (.imul, 1) := by decide +kernel
theorem dX8_give_33 : decode cX8_give 33 = .ok (.iload_n 3, 1) := by decide +kernel
theorem dX8_give_34 : decode cX8_give 34 = .ok (.iadd, 1) := by decide +kernel
theorem dX8_give_35 : decode cX8_give 35 = .ok (.dup2, 1) := by decide +kernel
theorem dX8_give_36 : decode cX8_give 36 = .ok (.iaload, 1) := by decide +kernel
theorem dX8_give_37 : decode cX8_give 37 = .ok (.iload 4, 2) := by decide +kernel
theorem dX8_give_39 : decode cX8_give 39 = .ok (.isub, 1) := by decide +kernel
theorem dX8_give_40 : decode cX8_give 40 = .ok (.iastore, 1) := by decide +kernel
theorem dX8_give_41 : decode cX8_give 41 = .ok (.aload_n 0, 1) := by decide +kernel
theorem dX8_give_42 : decode cX8_give 42 = .ok (.iconst 3, 1) := by decide +kernel
theorem dX8_give_43 : decode cX8_give 43 = .ok (.iload_n 3, 1) := by decide +kernel
theorem dX8_give_44 : decode cX8_give 44 = .ok (.iload 4, 2) := by decide +kernel
theorem dX8_give_46 : decode cX8_give 46 = .ok (.invokevirtual 134, 3) := by decide +kernel
theorem dX8_give_49 : decode cX8_give 49 = .ok (.aload_n 0, 1) := by decide +kernel
theorem dX8_give_50 : decode cX8_give 50 = .ok (.iload_n 1, 1) := by decide +kernel
theorem dX8_give_51 : decode cX8_give 51 = .ok (.iload_n 3, 1) := by decide +kernel
theorem dX8_give_52 : decode cX8_give 52 = .ok (.invokevirtual 130, 3) := by decide +kernel
theorem dX8_give_55 : decode cX8_give 55 = .ok (.ireturn, 1) := by decide +kernel
set_option maxRecDepth 20000 in
theorem ggX8_owes_X8_isPost : GoodIn wsX8_owes wsX8_isPost := goodIn_r _ [6, 7, 8, 9, 5, 10, 11, 12, 13, 14, 15, 16, 17, 18, 19, 20, 21, 22, 23, 24, 25, 26, 27, 28, 29, 30, 31, 32, 33, 34, 35, 36, 37, 38, 39, 40, 41, 42, 43, 44, 45, 46, 47] (by decide +kernel) (by decide +kernel)
set_option maxRecDepth 20000 in
theorem gX8_owes_X8_isPost : GoodIn wsX8_owes (wsV RX8 119 RX8 yX8_isPost wsX8_isPost) := goodIn_app (goodIn_of _ (by decide +kernel)) ggX8_owes_X8_isPost
set_option maxRecDepth 20000 in
theorem ggX8_owes_X8_in : GoodIn wsX8_owes wsX8_in := goodIn_r _ [10] (by decide +kernel) (by decide +kernel)
set_option maxRecDepth 20000 in
theorem gX8_owes_X8_in : GoodIn wsX8_owes (va_wsS RX8 108 yX8_in wsX8_in) := goodIn_app (goodIn_of _ (by decide +kernel)) ggX8_owes_X8_in
theorem dX8_owes_0 : decode cX8_owes 0 = .ok (.aload_n 0, 1) := by decide +kernel
theorem dX8_owes_1 : decode cX8_owes 1 = .ok (.iload_n 1, 1) := by decide +kernel
theorem dX8_owes_2 : decode cX8_owes 2 = .ok (.invokevirtual 119, 3) := by decide +kernel
theorem dX8_owes_5 : decode cX8_owes 5 = .ok (.ifCond .eq 27, 3) := by decide +kernel
theorem dX8_owes_8 : decode cX8_owes 8 = .ok (.iload_n 2, 1) := by decide +kernel
theorem dX8_owes_9 : decode cX8_owes 9 = .ok (.iconst 0, 1) := by decide +kernel
theorem dX8_owes_10 : decode cX8_owes 10 = .ok (.bipush 11, 2) := by decide +kernel
theorem dX8_owes_12 : decode cX8_owes 12 = .ok (.invokestatic 108, 3) := by decide +kernel
theorem dX8_owes_15 : decode cX8_owes 15 = .ok (.ifCond .eq 17, 3) := by decide +kernel
theorem dX8_owes_18 : decode cX8_owes 18 = .ok (.aload_n 0, 1) := by decide +kernel
theorem dX8_owes_19 : decode cX8_owes 19 = .ok (.getfield 16, 3) := by decide +kernel
theorem dX8_owes_22 : decode cX8_owes 22 = .ok (.bipush 12, 2) := by decide +kernel
theorem dX8_owes_24 : decode cX8_owes 24 = .ok (.iload_n 1, 1) := by decide +kernel
theorem dX8_owes_25 : decode cX8_owes 25 = .ok (.imul, 1) := by decide +kernel
theorem dX8_owes_26 : decode cX8_owes 26 = .ok (.iload_n 2, 1) := by decide +kernel
theorem dX8_owes_27 : decode cX8_owes 27 = .ok (.iadd, 1) := by decide +kernel
theorem dX8_owes_28 : decode cX8_owes 28 = .ok (.iaload, 1) := by decide +kernel
theorem dX8_owes_29 : decode cX8_owes 29 = .ok (.goto 4, 3) := by decide +kernel
theorem dX8_owes_32 : decode cX8_owes 32 = .ok (.iconst 0, 1) := by decide +kernel
theorem dX8_owes_33 : decode cX8_owes 33 = .ok (.ireturn, 1) := by decide +kernel
set_option maxRecDepth 20000 in
theorem ggX8_price_X8_isPost : GoodIn wsX8_price wsX8_isPost := goodIn_r _ [6, 7, 8, 9, 5, 10, 14, 15, 16, 17, 18, 19, 20, 21, 22, 23, 24, 25, 26, 27, 28, 29, 30, 31, 32, 33, 34, 35, 36, 37, 38, 39, 40, 41, 42, 43, 44, 45, 46, 47, 48, 49, 50] (by decide +kernel) (by decide +kernel)
set_option maxRecDepth 20000 in
theorem gX8_price_X8_isPost : GoodIn wsX8_price (wsV RX8 119 RX8 yX8_isPost wsX8_isPost) := goodIn_app (goodIn_of _ (by decide +kernel)) ggX8_price_X8_isPost
set_option maxRecDepth 20000 in
theorem ggX8_price_X8_isWare : GoodIn wsX8_price wsX8_isWare := goodIn_r _ [13, 8, 9, 5, 10] (by decide +kernel) (by decide +kernel)
set_option maxRecDepth 20000 in
theorem gX8_price_X8_isWare : GoodIn wsX8_price (va_wsS RX8 127 yX8_isWare wsX8_isWare) := goodIn_app (goodIn_of _ (by decide +kernel)) ggX8_price_X8_isWare
theorem dX8_price_0 : decode cX8_price 0 = .ok (.aload_n 0, 1) := by decide +kernel
theorem dX8_price_1 : decode cX8_price 1 = .ok (.iload_n 1, 1) := by decide +kernel
theorem dX8_price_2 : decode cX8_price 2 = .ok (.invokevirtual 119, 3) := by decide +kernel
theorem dX8_price_5 : decode cX8_price 5 = .ok (.ifCond .eq 24, 3) := by decide +kernel
theorem dX8_price_8 : decode cX8_price 8 = .ok (.iload_n 2, 1) := by decide +kernel
theorem dX8_price_9 : decode cX8_price 9 = .ok (.invokestatic 127, 3) := by decide +kernel
theorem dX8_price_12 : decode cX8_price 12 = .ok (.ifCond .eq 17, 3) := by decide +kernel
theorem dX8_price_15 : decode cX8_price 15 = .ok (.aload_n 0, 1) := by decide +kernel
theorem dX8_price_16 : decode cX8_price 16 = .ok (.getfield 13, 3) := by decide +kernel
theorem dX8_price_19 : decode cX8_price 19 = .ok (.bipush 6, 2) := by decide +kernel
theorem dX8_price_21 : decode cX8_price 21 = .ok (.iload_n 1, 1) := by decide +kernel
theorem dX8_price_22 : decode cX8_price 22 = .ok (.imul, 1) := by decide +kernel
theorem dX8_price_23 : decode cX8_price 23 = .ok (.iload_n 2, 1) := by decide +kernel
theorem dX8_price_24 : decode cX8_price 24 = .ok (.iadd, 1) := by decide +kernel
theorem dX8_price_25 : decode cX8_price 25 = .ok (.iaload, 1) := by decide +kernel
theorem dX8_price_26 : decode cX8_price 26 = .ok (.goto 4, 3) := by decide +kernel
theorem dX8_price_29 : decode cX8_price 29 = .ok (.iconst (-1), 1) := by decide +kernel
theorem dX8_price_30 : decode cX8_price 30 = .ok (.ireturn, 1) := by decide +kernel
set_option maxRecDepth 20000 in
theorem ggX8_canWrite_X8_isPost : GoodIn wsX8_canWrite wsX8_isPost := goodIn_r _ [6, 7, 8, 9, 5, 10, 11, 12, 13, 14, 15, 16, 17, 18, 19, 20, 21, 22, 23, 24, 25, 26, 27, 28, 29, 30, 31, 32, 33, 34, 35, 36, 37, 38, 39, 40, 41, 42, 43, 44, 45, 46, 47] (by decide +kernel) (by decide +kernel)
set_option maxRecDepth 20000 in
theorem gX8_canWrite_X8_isPost : GoodIn wsX8_canWrite (wsV RX8 119 RX8 yX8_isPost wsX8_isPost) := goodIn_app (goodIn_of _ (by decide +kernel)) ggX8_canWrite_X8_isPost
theorem dX8_canWrite_0 : decode cX8_canWrite 0 = .ok (.aload_n 0, 1) := by decide +kernel
theorem dX8_canWrite_1 : decode cX8_canWrite 1 = .ok (.iload_n 1, 1) := by decide +kernel
theorem dX8_canWrite_2 : decode cX8_canWrite 2 = .ok (.invokevirtual 119, 3) := by decide +kernel
theorem dX8_canWrite_5 : decode cX8_canWrite 5 = .ok (.ifCond .eq 30, 3) := by decide +kernel
theorem dX8_canWrite_8 : decode cX8_canWrite 8 = .ok (.aload_n 0, 1) := by decide +kernel
theorem dX8_canWrite_9 : decode cX8_canWrite 9 = .ok (.iload_n 2, 1) := by decide +kernel
theorem dX8_canWrite_10 : decode cX8_canWrite 10 = .ok (.invokevirtual 119, 3) := by decide +kernel
theorem dX8_canWrite_13 : decode cX8_canWrite 13 = .ok (.ifCond .eq 22, 3) := by decide +kernel
theorem dX8_canWrite_16 : decode cX8_canWrite 16 = .ok (.iload_n 1, 1) := by decide +kernel
theorem dX8_canWrite_17 : decode cX8_canWrite 17 = .ok (.iload_n 2, 1) := by decide +kernel
theorem dX8_canWrite_18 : decode cX8_canWrite 18 = .ok (.if_icmp .eq 17, 3) := by decide +kernel
theorem dX8_canWrite_21 : decode cX8_canWrite 21 = .ok (.aload_n 0, 1) := by decide +kernel
theorem dX8_canWrite_22 : decode cX8_canWrite 22 = .ok (.getfield 144, 3) := by decide +kernel
theorem dX8_canWrite_25 : decode cX8_canWrite 25 = .ok (.sipush 300, 3) := by decide +kernel
theorem dX8_canWrite_28 : decode cX8_canWrite 28 = .ok (.if_icmp .ge 7, 3) := by decide +kernel
theorem dX8_canWrite_31 : decode cX8_canWrite 31 = .ok (.iconst 1, 1) := by decide +kernel
theorem dX8_canWrite_32 : decode cX8_canWrite 32 = .ok (.goto 4, 3) := by decide +kernel
theorem dX8_canWrite_35 : decode cX8_canWrite 35 = .ok (.iconst 0, 1) := by decide +kernel
theorem dX8_canWrite_36 : decode cX8_canWrite 36 = .ok (.ireturn, 1) := by decide +kernel
theorem dX8_writes_0 : decode cX8_writes 0 = .ok (.aload_n 0, 1) := by decide +kernel
theorem dX8_writes_1 : decode cX8_writes 1 = .ok (.getfield 74, 3) := by decide +kernel
theorem dX8_writes_4 : decode cX8_writes 4 = .ok (.aload_n 0, 1) := by decide +kernel
theorem dX8_writes_5 : decode cX8_writes 5 = .ok (.getfield 144, 3) := by decide +kernel
theorem dX8_writes_8 : decode cX8_writes 8 = .ok (.iload_n 1, 1) := by decide +kernel
theorem dX8_writes_9 : decode cX8_writes 9 = .ok (.iastore, 1) := by decide +kernel
theorem dX8_writes_10 : decode cX8_writes 10 = .ok (.aload_n 0, 1) := by decide +kernel
theorem dX8_writes_11 : decode cX8_writes 11 = .ok (.getfield 80, 3) := by decide +kernel
theorem dX8_writes_14 : decode cX8_writes 14 = .ok (.aload_n 0, 1) := by decide +kernel
theorem dX8_writes_15 : decode cX8_writes 15 = .ok (.getfield 144, 3) := by decide +kernel
theorem dX8_writes_18 : decode cX8_writes 18 = .ok (.iload_n 2, 1) := by decide +kernel
theorem dX8_writes_19 : decode cX8_writes 19 = .ok (.iastore, 1) := by decide +kernel
theorem dX8_writes_20 : decode cX8_writes 20 = .ok (.aload_n 0, 1) := by decide +kernel
theorem dX8_writes_21 : decode cX8_writes 21 = .ok (.getfield 77, 3) := by decide +kernel
theorem dX8_writes_24 : decode cX8_writes 24 = .ok (.aload_n 0, 1) := by decide +kernel
theorem dX8_writes_25 : decode cX8_writes 25 = .ok (.getfield 144, 3) := by decide +kernel
theorem dX8_writes_28 : decode cX8_writes 28 = .ok (.iload_n 3, 1) := by decide +kernel
theorem dX8_writes_29 : decode cX8_writes 29 = .ok (.iastore, 1) := by decide +kernel
theorem dX8_writes_30 : decode cX8_writes 30 = .ok (.aload_n 0, 1) := by decide +kernel
theorem dX8_writes_31 : decode cX8_writes 31 = .ok (.getfield 83, 3) := by decide +kernel
theorem dX8_writes_34 : decode cX8_writes 34 = .ok (.aload_n 0, 1) := by decide +kernel
theorem dX8_writes_35 : decode cX8_writes 35 = .ok (.getfield 144, 3) := by decide +kernel
theorem dX8_writes_38 : decode cX8_writes 38 = .ok (.iload 4, 2) := by decide +kernel
theorem dX8_writes_40 : decode cX8_writes 40 = .ok (.iastore, 1) := by decide +kernel
theorem dX8_writes_41 : decode cX8_writes 41 = .ok (.aload_n 0, 1) := by decide +kernel
theorem dX8_writes_42 : decode cX8_writes 42 = .ok (.getfield 86, 3) := by decide +kernel
theorem dX8_writes_45 : decode cX8_writes 45 = .ok (.aload_n 0, 1) := by decide +kernel
theorem dX8_writes_46 : decode cX8_writes 46 = .ok (.getfield 144, 3) := by decide +kernel
theorem dX8_writes_49 : decode cX8_writes 49 = .ok (.iload 5, 2) := by decide +kernel
theorem dX8_writes_51 : decode cX8_writes 51 = .ok (.iastore, 1) := by decide +kernel
theorem dX8_writes_52 : decode cX8_writes 52 = .ok (.aload_n 0, 1) := by decide +kernel
theorem dX8_writes_53 : decode cX8_writes 53 = .ok (.dup, 1) := by decide +kernel
theorem dX8_writes_54 : decode cX8_writes 54 = .ok (.getfield 144, 3) := by decide +kernel
theorem dX8_writes_57 : decode cX8_writes 57 = .ok (.iconst 1, 1) := by decide +kernel
theorem dX8_writes_58 : decode cX8_writes 58 = .ok (.iadd, 1) := by decide +kernel
theorem dX8_writes_59 : decode cX8_writes 59 = .ok (.putfield 144, 3) := by decide +kernel
theorem dX8_writes_62 : decode cX8_writes 62 = .ok (.aload_n 0, 1) := by decide +kernel
theorem dX8_writes_63 : decode cX8_writes 63 = .ok (.getfield 144, 3) := by decide +kernel
theorem dX8_writes_66 : decode cX8_writes 66 = .ok (.iconst 1, 1) := by decide +kernel
theorem dX8_writes_67 : decode cX8_writes 67 = .ok (.isub, 1) := by decide +kernel
theorem dX8_writes_68 : decode cX8_writes 68 = .ok (.ireturn, 1) := by decide +kernel
set_option maxRecDepth 20000 in
theorem ggX8_order_X8_canWrite : GoodIn wsX8_order wsX8_canWrite := goodIn_r _ [5, 6, 7, 8, 9, 4, 10, 11, 12, 13, 14, 27, 28, 29, 30, 31, 32, 33, 34, 35, 36, 37, 38, 39, 40, 41, 42, 43, 44, 45, 46, 47, 48, 49, 50, 51, 52, 53, 54, 55, 56, 57, 58, 59, 60, 61, 62, 63] (by decide +kernel) (by decide +kernel)
set_option maxRecDepth 20000 in
theorem gX8_order_X8_canWrite : GoodIn wsX8_order (wsV RX8 171 RX8 yX8_canWrite wsX8_canWrite) := goodIn_app (goodIn_of _ (by decide +kernel)) ggX8_order_X8_canWrite
set_option maxRecDepth 20000 in
theorem ggX8_order_X8_isWare : GoodIn wsX8_order wsX8_isWare := goodIn_r _ [17, 12, 13, 4, 14] (by decide +kernel) (by decide +kernel)
set_option maxRecDepth 20000 in
theorem gX8_order_X8_isWare : GoodIn wsX8_order (va_wsS RX8 127 yX8_isWare wsX8_isWare) := goodIn_app (goodIn_of _ (by decide +kernel)) ggX8_order_X8_isWare
set_option maxRecDepth 20000 in
theorem ggX8_order_X8_in : GoodIn wsX8_order wsX8_in := goodIn_r _ [14] (by decide +kernel) (by decide +kernel)
set_option maxRecDepth 20000 in
theorem gX8_order_X8_in : GoodIn wsX8_order (va_wsS RX8 108 yX8_in wsX8_in) := goodIn_app (goodIn_of _ (by decide +kernel)) ggX8_order_X8_in
set_option maxRecDepth 20000 in
theorem ggX8_order_X8_writes : GoodIn wsX8_order wsX8_writes := goodIn_r _ [21, 22, 6, 23, 24, 25, 26, 27, 28, 29, 30, 31, 32, 33, 34, 35, 36, 37, 38, 39, 40, 41, 42, 43, 44, 45, 46, 47, 48, 49, 50, 51, 52, 53, 54, 55, 56, 57, 58, 59, 60, 61, 62, 63] (by decide +kernel) (by decide +kernel)
set_option maxRecDepth 20000 in
theorem gX8_order_X8_writes : GoodIn wsX8_order (wsV RX8 174 RX8 yX8_writes wsX8_writes) := goodIn_app (goodIn_of _ (by decide +kernel)) ggX8_order_X8_writes
theorem dX8_order_0 : decode cX8_order 0 = .ok (.aload_n 0, 1) := by decide +kernel
theorem dX8_order_1 : decode cX8_order 1 = .ok (.iload_n 1, 1) := by decide +kernel
theorem dX8_order_2 : decode cX8_order 2 = .ok (.iload_n 2, 1) := by decide +kernel
theorem dX8_order_3 : decode cX8_order 3 = .ok (.invokevirtual 171, 3) := by decide +kernel
theorem dX8_order_6 : decode cX8_order 6 = .ok (.ifCond .eq 34, 3) := by decide +kernel
theorem dX8_order_9 : decode cX8_order 9 = .ok (.iload_n 3, 1) := by decide +kernel
theorem dX8_order_10 : decode cX8_order 10 = .ok (.invokestatic 127, 3) := by decide +kernel
theorem dX8_order_13 : decode cX8_order 13 = .ok (.ifCond .eq 27, 3) := by decide +kernel
theorem dX8_order_16 : decode cX8_order 16 = .ok (.iload 4, 2) := by decide +kernel
theorem dX8_order_18 : decode cX8_order 18 = .ok (.iconst 1, 1) := by decide +kernel
theorem dX8_order_19 : decode cX8_order 19 = .ok (.bipush 100, 2) := by decide +kernel
theorem dX8_order_21 : decode cX8_order 21 = .ok (.invokestatic 108, 3) := by decide +kernel
theorem dX8_order_24 : decode cX8_order 24 = .ok (.ifCond .eq 16, 3) := by decide +kernel
theorem dX8_order_27 : decode cX8_order 27 = .ok (.aload_n 0, 1) := by decide +kernel
theorem dX8_order_28 : decode cX8_order 28 = .ok (.iconst 0, 1) := by decide +kernel
theorem dX8_order_29 : decode cX8_order 29 = .ok (.iload_n 1, 1) := by decide +kernel
theorem dX8_order_30 : decode cX8_order 30 = .ok (.iload_n 2, 1) := by decide +kernel
theorem dX8_order_31 : decode cX8_order 31 = .ok (.iload_n 3, 1) := by decide +kernel
theorem dX8_order_32 : decode cX8_order 32 = .ok (.iload 4, 2) := by decide +kernel
theorem dX8_order_34 : decode cX8_order 34 = .ok (.invokevirtual 174, 3) := by decide +kernel
theorem dX8_order_37 : decode cX8_order 37 = .ok (.goto 4, 3) := by decide +kernel
theorem dX8_order_40 : decode cX8_order 40 = .ok (.iconst (-1), 1) := by decide +kernel
theorem dX8_order_41 : decode cX8_order 41 = .ok (.ireturn, 1) := by decide +kernel
set_option maxRecDepth 20000 in
theorem ggX8_debt_X8_canWrite : GoodIn wsX8_debt wsX8_canWrite := goodIn_r _ [6, 7, 8, 9, 10, 5, 11, 12, 13, 14, 15, 29, 30, 31, 32, 33, 34, 35, 36, 37, 38, 39, 40, 41, 42, 43, 44, 45, 46, 47, 48, 49, 50, 51, 52, 53, 54, 55, 56, 57, 58, 59, 60, 61, 62, 63, 64, 65] (by decide +kernel) (by decide +kernel)
set_option maxRecDepth 20000 in
theorem gX8_debt_X8_canWrite : GoodIn wsX8_debt (wsV RX8 171 RX8 yX8_canWrite wsX8_canWrite) := goodIn_app (goodIn_of _ (by decide +kernel)) ggX8_debt_X8_canWrite
set_option maxRecDepth 20000 in
theorem ggX8_debt_X8_in : GoodIn wsX8_debt wsX8_in := goodIn_r _ [15] (by decide +kernel) (by decide +kernel)
set_option maxRecDepth 20000 in
theorem gX8_debt_X8_in : GoodIn wsX8_debt (va_wsS RX8 108 yX8_in wsX8_in) := goodIn_app (goodIn_of _ (by decide +kernel)) ggX8_debt_X8_in
set_option maxRecDepth 20000 in
theorem ggX8_debt_X8_owes : GoodIn wsX8_debt wsX8_owes := goodIn_r _ [19, 1, 8, 9, 10, 5, 11, 12, 13, 14, 15, 29, 30, 31, 32, 33, 34, 35, 36, 37, 38, 39, 40, 41, 42, 43, 44, 45, 46, 47, 48, 49, 50, 51, 52, 53, 54, 55, 56, 57, 58, 59, 60, 61, 62, 63, 64, 65] (by decide +kernel) (by decide +kernel)
set_option maxRecDepth 20000 in
theorem gX8_debt_X8_owes : GoodIn wsX8_debt (wsV RX8 178 RX8 yX8_owes wsX8_owes) := goodIn_app (goodIn_of _ (by decide +kernel)) ggX8_debt_X8_owes
set_option maxRecDepth 20000 in
theorem ggX8_debt_X8_writes : GoodIn wsX8_debt wsX8_writes := goodIn_r _ [23, 24, 7, 25, 26, 27, 28, 29, 30, 31, 32, 33, 34, 35, 36, 37, 38, 39, 40, 41, 42, 43, 44, 45, 46, 47, 48, 49, 50, 51, 52, 53, 54, 55, 56, 57, 58, 59, 60, 61, 62, 63, 64, 65] (by decide +kernel) (by decide +kernel)
set_option maxRecDepth 20000 in
theorem gX8_debt_X8_writes : GoodIn wsX8_debt (wsV RX8 174 RX8 yX8_writes wsX8_writes) := goodIn_app (goodIn_of _ (by decide +kernel)) ggX8_debt_X8_writes
theorem dX8_debt_0 : decode cX8_debt 0 = .ok (.aload_n 0, 1) := by decide +kernel
theorem dX8_debt_1 : decode cX8_debt 1 = .ok (.iload_n 1, 1) := by decide +kernel
theorem dX8_debt_2 : decode cX8_debt 2 = .ok (.iload_n 2, 1) := by decide +kernel
theorem dX8_debt_3 : decode cX8_debt 3 = .ok (.invokevirtual 171, 3) := by decide +kernel
theorem dX8_debt_6 : decode cX8_debt 6 = .ok (.ifCond .eq 22, 3) := by decide +kernel
theorem dX8_debt_9 : decode cX8_debt 9 = .ok (.iload_n 3, 1) := by decide +kernel
theorem dX8_debt_10 : decode cX8_debt 10 = .ok (.iconst 0, 1) := by decide +kernel
theorem dX8_debt_11 : decode cX8_debt 11 = .ok (.bipush 11, 2) := by decide +kernel
theorem dX8_debt_13 : decode cX8_debt 13 = .ok (.invokestatic 108, 3) := by decide +kernel
theorem dX8_debt_16 : decode cX8_debt 16 = .ok (.ifCond .eq 12, 3) := by decide +kernel
theorem dX8_debt_19 : decode cX8_debt 19 = .ok (.aload_n 0, 1) := by decide +kernel
theorem dX8_debt_20 : decode cX8_debt 20 = .ok (.iload_n 1, 1) := by decide +kernel
theorem dX8_debt_21 : decode cX8_debt 21 = .ok (.iload_n 3, 1) := by decide +kernel
theorem dX8_debt_22 : decode cX8_debt 22 = .ok (.invokevirtual 178, 3) := by decide +kernel
theorem dX8_debt_25 : decode cX8_debt 25 = .ok (.ifCond .ne 5, 3) := by decide +kernel
theorem dX8_debt_28 : decode cX8_debt 28 = .ok (.iconst (-1), 1) := by decide +kernel
theorem dX8_debt_29 : decode cX8_debt 29 = .ok (.ireturn, 1) := by decide +kernel
theorem dX8_debt_30 : decode cX8_debt 30 = .ok (.aload_n 0, 1) := by decide +kernel
theorem dX8_debt_31 : decode cX8_debt 31 = .ok (.iload_n 1, 1) := by decide +kernel
theorem dX8_debt_32 : decode cX8_debt 32 = .ok (.iload_n 3, 1) := by decide +kernel
theorem dX8_debt_33 : decode cX8_debt 33 = .ok (.invokevirtual 178, 3) := by decide +kernel
theorem dX8_debt_36 : decode cX8_debt 36 = .ok (.istore 4, 2) := by decide +kernel
theorem dX8_debt_38 : decode cX8_debt 38 = .ok (.aload_n 0, 1) := by decide +kernel
theorem dX8_debt_39 : decode cX8_debt 39 = .ok (.iconst 1, 1) := by decide +kernel
theorem dX8_debt_40 : decode cX8_debt 40 = .ok (.iload_n 1, 1) := by decide +kernel
theorem dX8_debt_41 : decode cX8_debt 41 = .ok (.iload_n 2, 1) := by decide +kernel
theorem dX8_debt_42 : decode cX8_debt 42 = .ok (.iload_n 3, 1) := by decide +kernel
theorem dX8_debt_43 : decode cX8_debt 43 = .ok (.iload 4, 2) := by decide +kernel
theorem dX8_debt_45 : decode cX8_debt 45 = .ok (.invokevirtual 174, 3) := by decide +kernel
theorem dX8_debt_48 : decode cX8_debt 48 = .ok (.pop, 1) := by decide +kernel
theorem dX8_debt_49 : decode cX8_debt 49 = .ok (.aload_n 0, 1) := by decide +kernel
theorem dX8_debt_50 : decode cX8_debt 50 = .ok (.getfield 16, 3) := by decide +kernel
theorem dX8_debt_53 : decode cX8_debt 53 = .ok (.bipush 12, 2) := by decide +kernel
theorem dX8_debt_55 : decode cX8_debt 55 = .ok (.iload_n 1, 1) := by decide +kernel
theorem dX8_debt_56 : decode cX8_debt 56 = .ok (.imul, 1) := by decide +kernel
theorem dX8_debt_57 : decode cX8_debt 57 = .ok (.iload_n 3, 1) := by decide +kernel
theorem dX8_debt_58 : decode cX8_debt 58 = .ok (.iadd, 1) := by decide +kernel
theorem dX8_debt_59 : decode cX8_debt 59 = .ok (.iconst 0, 1) := by decide +kernel
theorem dX8_debt_60 : decode cX8_debt 60 = .ok (.iastore, 1) := by decide +kernel
theorem dX8_debt_61 : decode cX8_debt 61 = .ok (.iload 4, 2) := by decide +kernel
theorem dX8_debt_63 : decode cX8_debt 63 = .ok (.ireturn, 1) := by decide +kernel
set_option maxRecDepth 20000 in
theorem ggX8_report_X8_canWrite : GoodIn wsX8_report wsX8_canWrite := goodIn_r _ [7, 8, 9, 10, 11, 6, 12, 13, 14, 15, 16, 31, 32, 33, 34, 35, 36, 37, 38, 39, 40, 41, 42, 43, 44, 45, 46, 47, 48, 49, 50, 51, 52, 53, 54, 55, 56, 57, 58, 59, 60, 61, 62, 63, 64, 65, 66, 67] (by decide +kernel) (by decide +kernel)
set_option maxRecDepth 20000 in
theorem gX8_report_X8_canWrite : GoodIn wsX8_report (wsV RX8 171 RX8 yX8_canWrite wsX8_canWrite) := goodIn_app (goodIn_of _ (by decide +kernel)) ggX8_report_X8_canWrite
set_option maxRecDepth 20000 in
theorem ggX8_report_X8_writes : GoodIn wsX8_report wsX8_writes := goodIn_r _ [20, 21, 8, 22, 23, 24, 25, 31, 32, 33, 34, 35, 36, 37, 38, 39, 40, 41, 42, 43, 44, 45, 46, 47, 48, 49, 50, 51, 52, 53, 54, 55, 56, 57, 58, 59, 60, 61, 62, 63, 64, 65, 66, 67] (by decide +kernel) (by decide +kernel)
set_option maxRecDepth 20000 in
theorem gX8_report_X8_writes : GoodIn wsX8_report (wsV RX8 174 RX8 yX8_writes wsX8_writes) := goodIn_app (goodIn_of _ (by decide +kernel)) ggX8_report_X8_writes
set_option maxRecDepth 20000 in
theorem ggX8_report_X8_stored : GoodIn wsX8_report wsX8_stored := goodIn_r _ [29, 30, 31, 32, 33, 34, 35, 36, 37, 38, 39, 40, 41, 42, 43, 44, 45, 46, 47, 48, 49, 50, 51, 52, 53, 54, 55, 56, 57, 58, 59, 60, 61, 62, 63, 64, 65, 66, 67] (by decide +kernel) (by decide +kernel)
set_option maxRecDepth 20000 in
theorem gX8_report_X8_stored : GoodIn wsX8_report (wsV RX8 130 RX8 yX8_stored wsX8_stored) := goodIn_app (goodIn_of _ (by decide +kernel)) ggX8_report_X8_stored
theorem dX8_report_0 : decode cX8_report 0 = .ok (.aload_n 0, 1) := by decide +kernel
theorem dX8_report_1 : decode cX8_report 1 = .ok (.iload_n 1, 1) := by decide +kernel
theorem dX8_report_2 : decode cX8_report 2 = .ok (.iload_n 2, 1) := by decide +kernel
theorem dX8_report_3 : decode cX8_report 3 = .ok (.invokevirtual 171, 3) := by decide +kernel
theorem dX8_report_6 : decode cX8_report 6 = .ok (.ifCond .ne 5, 3) := by decide +kernel
theorem dX8_report_9 : decode cX8_report 9 = .ok (.iconst (-1), 1) := by decide +kernel
theorem dX8_report_10 : decode cX8_report 10 = .ok (.ireturn, 1) := by decide +kernel
theorem dX8_report_11 : decode cX8_report 11 = .ok (.aload_n 0, 1) := by decide +kernel
theorem dX8_report_12 : decode cX8_report 12 = .ok (.iconst 2, 1) := by decide +kernel
theorem dX8_report_13 : decode cX8_report 13 = .ok (.iload_n 1, 1) := by decide +kernel
theorem dX8_report_14 : decode cX8_report 14 = .ok (.iload_n 2, 1) := by decide +kernel
theorem dX8_report_15 : decode cX8_report 15 = .ok (.iload_n 1, 1) := by decide +kernel
theorem dX8_report_16 : decode cX8_report 16 = .ok (.aload_n 0, 1) := by decide +kernel
theorem dX8_report_17 : decode cX8_report 17 = .ok (.getfield 137, 3) := by decide +kernel
theorem dX8_report_20 : decode cX8_report 20 = .ok (.invokevirtual 174, 3) := by decide +kernel
theorem dX8_report_23 : decode cX8_report 23 = .ok (.istore_n 3, 1) := by decide +kernel
theorem dX8_report_24 : decode cX8_report 24 = .ok (.iconst 0, 1) := by decide +kernel
theorem dX8_report_25 : decode cX8_report 25 = .ok (.istore 4, 2) := by decide +kernel
theorem dX8_report_27 : decode cX8_report 27 = .ok (.iload 4, 2) := by decide +kernel
theorem dX8_report_29 : decode cX8_report 29 = .ok (.bipush 6, 2) := by decide +kernel
theorem dX8_report_31 : decode cX8_report 31 = .ok (.if_icmp .ge 28, 3) := by decide +kernel
theorem dX8_report_34 : decode cX8_report 34 = .ok (.aload_n 0, 1) := by decide +kernel
theorem dX8_report_35 : decode cX8_report 35 = .ok (.getfield 89, 3) := by decide +kernel
theorem dX8_report_38 : decode cX8_report 38 = .ok (.bipush 6, 2) := by decide +kernel
theorem dX8_report_40 : decode cX8_report 40 = .ok (.iload_n 3, 1) := by decide +kernel
theorem dX8_report_41 : decode cX8_report 41 = .ok (.imul, 1) := by decide +kernel
theorem dX8_report_42 : decode cX8_report 42 = .ok (.iload 4, 2) := by decide +kernel
theorem dX8_report_44 : decode cX8_report 44 = .ok (.iadd, 1) := by decide +kernel
theorem dX8_report_45 : decode cX8_report 45 = .ok (.aload_n 0, 1) := by decide +kernel
theorem dX8_report_46 : decode cX8_report 46 = .ok (.iload_n 1, 1) := by decide +kernel
theorem dX8_report_47 : decode cX8_report 47 = .ok (.iload 4, 2) := by decide +kernel
theorem dX8_report_49 : decode cX8_report 49 = .ok (.invokevirtual 130, 3) := by decide +kernel
theorem dX8_report_52 : decode cX8_report 52 = .ok (.iastore, 1) := by decide +kernel
theorem dX8_report_53 : decode cX8_report 53 = .ok (.iinc 4 1, 3) := by decide +kernel
theorem dX8_report_56 : decode cX8_report 56 = .ok (.goto (-29), 3) := by decide +kernel
theorem dX8_report_59 : decode cX8_report 59 = .ok (.iload_n 3, 1) := by decide +kernel
theorem dX8_report_60 : decode cX8_report 60 = .ok (.ireturn, 1) := by decide +kernel
set_option maxRecDepth 20000 in
theorem ggX8_known_X8_isPost : GoodIn wsX8_known wsX8_isPost := goodIn_r _ [7, 8, 9, 10, 6, 11, 20, 21, 22, 23, 24, 25, 26, 27, 28, 29, 30, 31, 32, 33, 34, 35, 36, 37, 38, 39, 40, 41, 42, 43, 44, 45, 46, 47, 48, 49, 50, 51, 52, 53, 54, 55, 56] (by decide +kernel) (by decide +kernel)
set_option maxRecDepth 20000 in
theorem gX8_known_X8_isPost : GoodIn wsX8_known (wsV RX8 119 RX8 yX8_isPost wsX8_isPost) := goodIn_app (goodIn_of _ (by decide +kernel)) ggX8_known_X8_isPost
set_option maxRecDepth 20000 in
theorem ggX8_known_X8_isWare : GoodIn wsX8_known wsX8_isWare := goodIn_r _ [14, 9, 10, 6, 11] (by decide +kernel) (by decide +kernel)
set_option maxRecDepth 20000 in
theorem gX8_known_X8_isWare : GoodIn wsX8_known (va_wsS RX8 127 yX8_isWare wsX8_isWare) := goodIn_app (goodIn_of _ (by decide +kernel)) ggX8_known_X8_isWare
set_option maxRecDepth 20000 in
theorem ggX8_known_X8_stored : GoodIn wsX8_known wsX8_stored := goodIn_r _ [18, 19, 20, 21, 22, 23, 24, 25, 26, 27, 28, 29, 30, 31, 32, 33, 34, 35, 36, 37, 38, 39, 40, 41, 42, 43, 44, 45, 46, 47, 48, 49, 50, 51, 52, 53, 54, 55, 56] (by decide +kernel) (by decide +kernel)
set_option maxRecDepth 20000 in
theorem gX8_known_X8_stored : GoodIn wsX8_known (wsV RX8 130 RX8 yX8_stored wsX8_stored) := goodIn_app (goodIn_of _ (by decide +kernel)) ggX8_known_X8_stored
theorem dX8_known_0 : decode cX8_known 0 = .ok (.aload_n 0, 1) := by decide +kernel
theorem dX8_known_1 : decode cX8_known 1 = .ok (.iload_n 1, 1) := by decide +kernel
theorem dX8_known_2 : decode cX8_known 2 = .ok (.invokevirtual 119, 3) := by decide +kernel
theorem dX8_known_5 : decode cX8_known 5 = .ok (.ifCond .eq 18, 3) := by decide +kernel
theorem dX8_known_8 : decode cX8_known 8 = .ok (.aload_n 0, 1) := by decide +kernel
theorem dX8_known_9 : decode cX8_known 9 = .ok (.iload_n 2, 1) := by decide +kernel
theorem dX8_known_10 : decode cX8_known 10 = .ok (.invokevirtual 119, 3) := by decide +kernel
theorem dX8_known_13 : decode cX8_known 13 = .ok (.ifCond .eq 10, 3) := by decide +kernel
theorem dX8_known_16 : decode cX8_known 16 = .ok (.iload_n 3, 1) := by decide +kernel
theorem dX8_known_17 : decode cX8_known 17 = .ok (.invokestatic 127, 3) := by decide +kernel
theorem dX8_known_20 : decode cX8_known 20 = .ok (.ifCond .ne 5, 3) := by decide +kernel
theorem dX8_known_23 : decode cX8_known 23 = .ok (.iconst (-1), 1) := by decide +kernel
theorem dX8_known_24 : decode cX8_known 24 = .ok (.ireturn, 1) := by decide +kernel
theorem dX8_known_25 : decode cX8_known 25 = .ok (.iload_n 1, 1) := by decide +kernel
theorem dX8_known_26 : decode cX8_known 26 = .ok (.iload_n 2, 1) := by decide +kernel
theorem dX8_known_27 : decode cX8_known 27 = .ok (.if_icmp .ne 10, 3) := by decide +kernel
theorem dX8_known_30 : decode cX8_known 30 = .ok (.aload_n 0, 1) := by decide +kernel
theorem dX8_known_31 : decode cX8_known 31 = .ok (.iload_n 1, 1) := by decide +kernel
theorem dX8_known_32 : decode cX8_known 32 = .ok (.iload_n 3, 1) := by decide +kernel
theorem dX8_known_33 : decode cX8_known 33 = .ok (.invokevirtual 130, 3) := by decide +kernel
theorem dX8_known_36 : decode cX8_known 36 = .ok (.ireturn, 1) := by decide +kernel
theorem dX8_known_37 : decode cX8_known 37 = .ok (.aload_n 0, 1) := by decide +kernel
theorem dX8_known_38 : decode cX8_known 38 = .ok (.getfield 92, 3) := by decide +kernel
theorem dX8_known_41 : decode cX8_known 41 = .ok (.bipush 8, 2) := by decide +kernel
theorem dX8_known_43 : decode cX8_known 43 = .ok (.iload_n 1, 1) := by decide +kernel
theorem dX8_known_44 : decode cX8_known 44 = .ok (.imul, 1) := by decide +kernel
theorem dX8_known_45 : decode cX8_known 45 = .ok (.iload_n 2, 1) := by decide +kernel
theorem dX8_known_46 : decode cX8_known 46 = .ok (.iadd, 1) := by decide +kernel
theorem dX8_known_47 : decode cX8_known 47 = .ok (.iaload, 1) := by decide +kernel
theorem dX8_known_48 : decode cX8_known 48 = .ok (.istore 4, 2) := by decide +kernel
theorem dX8_known_50 : decode cX8_known 50 = .ok (.iload 4, 2) := by decide +kernel
theorem dX8_known_52 : decode cX8_known 52 = .ok (.iconst (-1), 1) := by decide +kernel
theorem dX8_known_53 : decode cX8_known 53 = .ok (.if_icmp .ne 7, 3) := by decide +kernel
theorem dX8_known_56 : decode cX8_known 56 = .ok (.iconst (-1), 1) := by decide +kernel
theorem dX8_known_57 : decode cX8_known 57 = .ok (.goto 15, 3) := by decide +kernel
theorem dX8_known_60 : decode cX8_known 60 = .ok (.aload_n 0, 1) := by decide +kernel
theorem dX8_known_61 : decode cX8_known 61 = .ok (.getfield 89, 3) := by decide +kernel
theorem dX8_known_64 : decode cX8_known 64 = .ok (.bipush 6, 2) := by decide +kernel
theorem dX8_known_66 : decode cX8_known 66 = .ok (.iload 4, 2) := by decide +kernel
theorem dX8_known_68 : decode cX8_known 68 = .ok (.imul, 1) := by decide +kernel
theorem dX8_known_69 : decode cX8_known 69 = .ok (.iload_n 3, 1) := by decide +kernel
theorem dX8_known_70 : decode cX8_known 70 = .ok (.iadd, 1) := by decide +kernel
theorem dX8_known_71 : decode cX8_known 71 = .ok (.iaload, 1) := by decide +kernel
theorem dX8_known_72 : decode cX8_known 72 = .ok (.ireturn, 1) := by decide +kernel
set_option maxRecDepth 20000 in
theorem ggX8_knownDay_X8_isPost : GoodIn wsX8_knownDay wsX8_isPost := goodIn_r _ [8, 9, 10, 11, 7, 12, 13, 14, 15, 16, 17, 18, 19, 20, 21, 22, 23, 24, 25, 26, 27, 28, 29, 30, 31, 32, 33, 34, 35, 36, 37, 38, 39, 40, 41, 42, 43, 44, 45, 46, 47, 48, 49] (by decide +kernel) (by decide +kernel)
set_option maxRecDepth 20000 in
theorem gX8_knownDay_X8_isPost : GoodIn wsX8_knownDay (wsV RX8 119 RX8 yX8_isPost wsX8_isPost) := goodIn_app (goodIn_of _ (by decide +kernel)) ggX8_knownDay_X8_isPost
theorem dX8_knownDay_0 : decode cX8_knownDay 0 = .ok (.aload_n 0, 1) := by decide +kernel
theorem dX8_knownDay_1 : decode cX8_knownDay 1 = .ok (.iload_n 1, 1) := by decide +kernel
theorem dX8_knownDay_2 : decode cX8_knownDay 2 = .ok (.invokevirtual 119, 3) := by decide +kernel
theorem dX8_knownDay_5 : decode cX8_knownDay 5 = .ok (.ifCond .eq 11, 3) := by decide +kernel
theorem dX8_knownDay_8 : decode cX8_knownDay 8 = .ok (.aload_n 0, 1) := by decide +kernel
theorem dX8_knownDay_9 : decode cX8_knownDay 9 = .ok (.iload_n 2, 1) := by decide +kernel
theorem dX8_knownDay_10 : decode cX8_knownDay 10 = .ok (.invokevirtual 119, 3) := by decide +kernel
theorem dX8_knownDay_13 : decode cX8_knownDay 13 = .ok (.ifCond .ne 5, 3) := by decide +kernel
theorem dX8_knownDay_16 : decode cX8_knownDay 16 = .ok (.iconst (-1), 1) := by decide +kernel
theorem dX8_knownDay_17 : decode cX8_knownDay 17 = .ok (.ireturn, 1) := by decide +kernel
theorem dX8_knownDay_18 : decode cX8_knownDay 18 = .ok (.iload_n 1, 1) := by decide +kernel
theorem dX8_knownDay_19 : decode cX8_knownDay 19 = .ok (.iload_n 2, 1) := by decide +kernel
theorem dX8_knownDay_20 : decode cX8_knownDay 20 = .ok (.if_icmp .ne 8, 3) := by decide +kernel
theorem dX8_knownDay_23 : decode cX8_knownDay 23 = .ok (.aload_n 0, 1) := by decide +kernel
theorem dX8_knownDay_24 : decode cX8_knownDay 24 = .ok (.getfield 137, 3) := by decide +kernel
theorem dX8_knownDay_27 : decode cX8_knownDay 27 = .ok (.ireturn, 1) := by decide +kernel
theorem dX8_knownDay_28 : decode cX8_knownDay 28 = .ok (.aload_n 0, 1) := by decide +kernel
theorem dX8_knownDay_29 : decode cX8_knownDay 29 = .ok (.getfield 92, 3) := by decide +kernel
theorem dX8_knownDay_32 : decode cX8_knownDay 32 = .ok (.bipush 8, 2) := by decide +kernel
theorem dX8_knownDay_34 : decode cX8_knownDay 34 = .ok (.iload_n 1, 1) := by decide +kernel
theorem dX8_knownDay_35 : decode cX8_knownDay 35 = .ok (.imul, 1) := by decide +kernel
theorem dX8_knownDay_36 : decode cX8_knownDay 36 = .ok (.iload_n 2, 1) := by decide +kernel
theorem dX8_knownDay_37 : decode cX8_knownDay 37 = .ok (.iadd, 1) := by decide +kernel
theorem dX8_knownDay_38 : decode cX8_knownDay 38 = .ok (.iaload, 1) := by decide +kernel
theorem dX8_knownDay_39 : decode cX8_knownDay 39 = .ok (.istore_n 3, 1) := by decide +kernel
theorem dX8_knownDay_40 : decode cX8_knownDay 40 = .ok (.iload_n 3, 1) := by decide +kernel
theorem dX8_knownDay_41 : decode cX8_knownDay 41 = .ok (.iconst (-1), 1) := by decide +kernel
theorem dX8_knownDay_42 : decode cX8_knownDay 42 = .ok (.if_icmp .ne 7, 3) := by decide +kernel
theorem dX8_knownDay_45 : decode cX8_knownDay 45 = .ok (.iconst (-1), 1) := by decide +kernel
theorem dX8_knownDay_46 : decode cX8_knownDay 46 = .ok (.goto 9, 3) := by decide +kernel
theorem dX8_knownDay_49 : decode cX8_knownDay 49 = .ok (.aload_n 0, 1) := by decide +kernel
theorem dX8_knownDay_50 : decode cX8_knownDay 50 = .ok (.getfield 86, 3) := by decide +kernel
theorem dX8_knownDay_53 : decode cX8_knownDay 53 = .ok (.iload_n 3, 1) := by decide +kernel
theorem dX8_knownDay_54 : decode cX8_knownDay 54 = .ok (.iaload, 1) := by decide +kernel
theorem dX8_knownDay_55 : decode cX8_knownDay 55 = .ok (.ireturn, 1) := by decide +kernel
set_option maxRecDepth 20000 in
theorem ggX8_next_X8_isPost : GoodIn wsX8_next wsX8_isPost := goodIn_r _ [10, 5, 11, 12, 9, 13, 18, 19, 20, 21, 22, 23, 24, 25, 26, 27, 28, 29, 30, 31, 32, 33, 34, 35, 36, 37, 38, 39, 40, 41, 42, 43, 44, 45, 46, 47, 48, 49, 50, 51, 52, 53, 54] (by decide +kernel) (by decide +kernel)
set_option maxRecDepth 20000 in
theorem gX8_next_X8_isPost : GoodIn wsX8_next (wsV RX8 119 RX8 yX8_isPost wsX8_isPost) := goodIn_app (goodIn_of _ (by decide +kernel)) ggX8_next_X8_isPost
set_option maxRecDepth 20000 in
theorem ggX8_next_X8_between : GoodIn wsX8_next wsX8_between := goodIn_r _ [17, 2, 3, 4, 18, 19, 20, 21, 22, 23, 24, 25, 26, 27, 28, 29, 30, 31, 32, 33, 34, 35, 36, 37, 38, 39, 40, 41, 42, 43, 44, 45, 46, 47, 48, 49, 50, 51, 52, 53, 54] (by decide +kernel) (by decide +kernel)
set_option maxRecDepth 20000 in
theorem gX8_next_X8_between : GoodIn wsX8_next (wsV RX8 123 RX8 yX8_between wsX8_between) := goodIn_app (goodIn_of _ (by decide +kernel)) ggX8_next_X8_between
theorem dX8_next_0 : decode cX8_next 0 = .ok (.aload_n 0, 1) := by decide +kernel
theorem dX8_next_1 : decode cX8_next 1 = .ok (.iload_n 1, 1) := by decide +kernel
theorem dX8_next_2 : decode cX8_next 2 = .ok (.invokevirtual 119, 3) := by decide +kernel
theorem dX8_next_5 : decode cX8_next 5 = .ok (.ifCond .eq 16, 3) := by decide +kernel
theorem dX8_next_8 : decode cX8_next 8 = .ok (.aload_n 0, 1) := by decide +kernel
theorem dX8_next_9 : decode cX8_next 9 = .ok (.iload_n 2, 1) := by decide +kernel
theorem dX8_next_10 : decode cX8_next 10 = .ok (.invokevirtual 119, 3) := by decide +kernel
theorem dX8_next_13 : decode cX8_next 13 = .ok (.ifCond .eq 8, 3) := by decide +kernel
theorem dX8_next_16 : decode cX8_next 16 = .ok (.iload_n 1, 1) := by decide +kernel
theorem dX8_next_17 : decode cX8_next 17 = .ok (.iload_n 2, 1) := by decide +kernel
theorem dX8_next_18 : decode cX8_next 18 = .ok (.if_icmp .ne 5, 3) := by decide +kernel
theorem dX8_next_21 : decode cX8_next 21 = .ok (.iconst (-1), 1) := by decide +kernel
theorem dX8_next_22 : decode cX8_next 22 = .ok (.ireturn, 1) := by decide +kernel
theorem dX8_next_23 : decode cX8_next 23 = .ok (.iconst 0, 1) := by decide +kernel
theorem dX8_next_24 : decode cX8_next 24 = .ok (.istore_n 3, 1) := by decide +kernel
theorem dX8_next_25 : decode cX8_next 25 = .ok (.iload_n 3, 1) := by decide +kernel
theorem dX8_next_26 : decode cX8_next 26 = .ok (.bipush 8, 2) := by decide +kernel
theorem dX8_next_28 : decode cX8_next 28 = .ok (.if_icmp .ge 26, 3) := by decide +kernel
theorem dX8_next_31 : decode cX8_next 31 = .ok (.aload_n 0, 1) := by decide +kernel
theorem dX8_next_32 : decode cX8_next 32 = .ok (.getfield 101, 3) := by decide +kernel
theorem dX8_next_35 : decode cX8_next 35 = .ok (.iload_n 3, 1) := by decide +kernel
theorem dX8_next_36 : decode cX8_next 36 = .ok (.iload_n 3, 1) := by decide +kernel
theorem dX8_next_37 : decode cX8_next 37 = .ok (.iload_n 2, 1) := by decide +kernel
theorem dX8_next_38 : decode cX8_next 38 = .ok (.if_icmp .ne 7, 3) := by decide +kernel
theorem dX8_next_41 : decode cX8_next 41 = .ok (.iconst 0, 1) := by decide +kernel
theorem dX8_next_42 : decode cX8_next 42 = .ok (.goto 5, 3) := by decide +kernel
theorem dX8_next_45 : decode cX8_next 45 = .ok (.bipush 100, 2) := by decide +kernel
theorem dX8_next_47 : decode cX8_next 47 = .ok (.iastore, 1) := by decide +kernel
theorem dX8_next_48 : decode cX8_next 48 = .ok (.iinc 3 1, 3) := by decide +kernel
theorem dX8_next_51 : decode cX8_next 51 = .ok (.goto (-26), 3) := by decide +kernel
theorem dX8_next_54 : decode cX8_next 54 = .ok (.iconst 0, 1) := by decide +kernel
theorem dX8_next_55 : decode cX8_next 55 = .ok (.istore_n 3, 1) := by decide +kernel
theorem dX8_next_56 : decode cX8_next 56 = .ok (.iload_n 3, 1) := by decide +kernel
theorem dX8_next_57 : decode cX8_next 57 = .ok (.bipush 8, 2) := by decide +kernel
theorem dX8_next_59 : decode cX8_next 59 = .ok (.if_icmp .ge 137, 3) := by decide +kernel
theorem dX8_next_62 : decode cX8_next 62 = .ok (.iconst 0, 1) := by decide +kernel
theorem dX8_next_63 : decode cX8_next 63 = .ok (.istore 4, 2) := by decide +kernel
theorem dX8_next_65 : decode cX8_next 65 = .ok (.iload 4, 2) := by decide +kernel
theorem dX8_next_67 : decode cX8_next 67 = .ok (.aload_n 0, 1) := by decide +kernel
theorem dX8_next_68 : decode cX8_next 68 = .ok (.getfield 115, 3) := by decide +kernel
theorem dX8_next_71 : decode cX8_next 71 = .ok (.if_icmp .ge 119, 3) := by decide +kernel
theorem dX8_next_74 : decode cX8_next 74 = .ok (.aload_n 0, 1) := by decide +kernel
theorem dX8_next_75 : decode cX8_next 75 = .ok (.getfield 101, 3) := by decide +kernel
theorem dX8_next_78 : decode cX8_next 78 = .ok (.aload_n 0, 1) := by decide +kernel
theorem dX8_next_79 : decode cX8_next 79 = .ok (.getfield 19, 3) := by decide +kernel
theorem dX8_next_82 : decode cX8_next 82 = .ok (.iload 4, 2) := by decide +kernel
theorem dX8_next_84 : decode cX8_next 84 = .ok (.iaload, 1) := by decide +kernel
theorem dX8_next_85 : decode cX8_next 85 = .ok (.iaload, 1) := by decide +kernel
theorem dX8_next_86 : decode cX8_next 86 = .ok (.iconst 1, 1) := by decide +kernel
theorem dX8_next_87 : decode cX8_next 87 = .ok (.iadd, 1) := by decide +kernel
theorem dX8_next_88 : decode cX8_next 88 = .ok (.aload_n 0, 1) := by decide +kernel
theorem dX8_next_89 : decode cX8_next 89 = .ok (.getfield 101, 3) := by decide +kernel
theorem dX8_next_92 : decode cX8_next 92 = .ok (.aload_n 0, 1) := by decide +kernel
theorem dX8_next_93 : decode cX8_next 93 = .ok (.getfield 22, 3) := by decide +kernel
theorem dX8_next_96 : decode cX8_next 96 = .ok (.iload 4, 2) := by decide +kernel
theorem dX8_next_98 : decode cX8_next 98 = .ok (.iaload, 1) := by decide +kernel
theorem dX8_next_99 : decode cX8_next 99 = .ok (.iaload, 1) := by decide +kernel
theorem dX8_next_100 : decode cX8_next 100 = .ok (.if_icmp .ge 29, 3) := by decide +kernel
theorem dX8_next_103 : decode cX8_next 103 = .ok (.aload_n 0, 1) := by decide +kernel
theorem dX8_next_104 : decode cX8_next 104 = .ok (.getfield 101, 3) := by decide +kernel
theorem dX8_next_107 : decode cX8_next 107 = .ok (.aload_n 0, 1) := by decide +kernel
theorem dX8_next_108 : decode cX8_next 108 = .ok (.getfield 22, 3) := by decide +kernel
theorem dX8_next_111 : decode cX8_next 111 = .ok (.iload 4, 2) := by decide +kernel
theorem dX8_next_113 : decode cX8_next 113 = .ok (.iaload, 1) := by decide +kernel
theorem dX8_next_114 : decode cX8_next 114 = .ok (.aload_n 0, 1) := by decide +kernel
theorem dX8_next_115 : decode cX8_next 115 = .ok (.getfield 101, 3) := by decide +kernel
theorem dX8_next_118 : decode cX8_next 118 = .ok (.aload_n 0, 1) := by decide +kernel
theorem dX8_next_119 : decode cX8_next 119 = .ok (.getfield 19, 3) := by decide +kernel
theorem dX8_next_122 : decode cX8_next 122 = .ok (.iload 4, 2) := by decide +kernel
theorem dX8_next_124 : decode cX8_next 124 = .ok (.iaload, 1) := by decide +kernel
theorem dX8_next_125 : decode cX8_next 125 = .ok (.iaload, 1) := by decide +kernel
theorem dX8_next_126 : decode cX8_next 126 = .ok (.iconst 1, 1) := by decide +kernel
theorem dX8_next_127 : decode cX8_next 127 = .ok (.iadd, 1) := by decide +kernel
theorem dX8_next_128 : decode cX8_next 128 = .ok (.iastore, 1) := by decide +kernel
theorem dX8_next_129 : decode cX8_next 129 = .ok (.aload_n 0, 1) := by decide +kernel
theorem dX8_next_130 : decode cX8_next 130 = .ok (.getfield 101, 3) := by decide +kernel
theorem dX8_next_133 : decode cX8_next 133 = .ok (.aload_n 0, 1) := by decide +kernel
theorem dX8_next_134 : decode cX8_next 134 = .ok (.getfield 22, 3) := by decide +kernel
theorem dX8_next_137 : decode cX8_next 137 = .ok (.iload 4, 2) := by decide +kernel
theorem dX8_next_139 : decode cX8_next 139 = .ok (.iaload, 1) := by decide +kernel
theorem dX8_next_140 : decode cX8_next 140 = .ok (.iaload, 1) := by decide +kernel
theorem dX8_next_141 : decode cX8_next 141 = .ok (.iconst 1, 1) := by decide +kernel
theorem dX8_next_142 : decode cX8_next 142 = .ok (.iadd, 1) := by decide +kernel
theorem dX8_next_143 : decode cX8_next 143 = .ok (.aload_n 0, 1) := by decide +kernel
theorem dX8_next_144 : decode cX8_next 144 = .ok (.getfield 101, 3) := by decide +kernel
theorem dX8_next_147 : decode cX8_next 147 = .ok (.aload_n 0, 1) := by decide +kernel
theorem dX8_next_148 : decode cX8_next 148 = .ok (.getfield 19, 3) := by decide +kernel
theorem dX8_next_151 : decode cX8_next 151 = .ok (.iload 4, 2) := by decide +kernel
theorem dX8_next_153 : decode cX8_next 153 = .ok (.iaload, 1) := by decide +kernel
theorem dX8_next_154 : decode cX8_next 154 = .ok (.iaload, 1) := by decide +kernel
theorem dX8_next_155 : decode cX8_next 155 = .ok (.if_icmp .ge 29, 3) := by decide +kernel
theorem dX8_next_158 : decode cX8_next 158 = .ok (.aload_n 0, 1) := by decide +kernel
theorem dX8_next_159 : decode cX8_next 159 = .ok (.getfield 101, 3) := by decide +kernel
theorem dX8_next_162 : decode cX8_next 162 = .ok (.aload_n 0, 1) := by decide +kernel
theorem dX8_next_163 : decode cX8_next 163 = .ok (.getfield 19, 3) := by decide +kernel
theorem dX8_next_166 : decode cX8_next 166 = .ok (.iload 4, 2) := by decide +kernel
theorem dX8_next_168 : decode cX8_next 168 = .ok (.iaload, 1) := by decide +kernel
theorem dX8_next_169 : decode cX8_next 169 = .ok (.aload_n 0, 1) := by decide +kernel
theorem dX8_next_170 : decode cX8_next 170 = .ok (.getfield 101, 3) := by decide +kernel
theorem dX8_next_173 : decode cX8_next 173 = .ok (.aload_n 0, 1) := by decide +kernel
theorem dX8_next_174 : decode cX8_next 174 = .ok (.getfield 22, 3) := by decide +kernel
theorem dX8_next_177 : decode cX8_next 177 = .ok (.iload 4, 2) := by decide +kernel
theorem dX8_next_179 : decode cX8_next 179 = .ok (.iaload, 1) := by decide +kernel
theorem dX8_next_180 : decode cX8_next 180 = .ok (.iaload, 1) := by decide +kernel
theorem dX8_next_181 : decode cX8_next 181 = .ok (.iconst 1, 1) := by decide +kernel
theorem dX8_next_182 : decode cX8_next 182 = .ok (.iadd, 1) := by decide +kernel
theorem dX8_next_183 : decode cX8_next 183 = .ok (.iastore, 1) := by decide +kernel
theorem dX8_next_184 : decode cX8_next 184 = .ok (.iinc 4 1, 3) := by decide +kernel
theorem dX8_next_187 : decode cX8_next 187 = .ok (.goto (-122), 3) := by decide +kernel
theorem dX8_next_190 : decode cX8_next 190 = .ok (.iinc 3 1, 3) := by decide +kernel
theorem dX8_next_193 : decode cX8_next 193 = .ok (.goto (-137), 3) := by decide +kernel
theorem dX8_next_196 : decode cX8_next 196 = .ok (.iconst (-1), 1) := by decide +kernel
theorem dX8_next_197 : decode cX8_next 197 = .ok (.istore_n 3, 1) := by decide +kernel
theorem dX8_next_198 : decode cX8_next 198 = .ok (.iconst 0, 1) := by decide +kernel
theorem dX8_next_199 : decode cX8_next 199 = .ok (.istore 4, 2) := by decide +kernel
theorem dX8_next_201 : decode cX8_next 201 = .ok (.iload 4, 2) := by decide +kernel
theorem dX8_next_203 : decode cX8_next 203 = .ok (.aload_n 0, 1) := by decide +kernel
theorem dX8_next_204 : decode cX8_next 204 = .ok (.getfield 104, 3) := by decide +kernel
theorem dX8_next_207 : decode cX8_next 207 = .ok (.if_icmp .ge 56, 3) := by decide +kernel
theorem dX8_next_210 : decode cX8_next 210 = .ok (.aload_n 0, 1) := by decide +kernel
theorem dX8_next_211 : decode cX8_next 211 = .ok (.iload_n 1, 1) := by decide +kernel
theorem dX8_next_212 : decode cX8_next 212 = .ok (.iload 4, 2) := by decide +kernel
theorem dX8_next_214 : decode cX8_next 214 = .ok (.invokevirtual 123, 3) := by decide +kernel
theorem dX8_next_217 : decode cX8_next 217 = .ok (.iconst (-1), 1) := by decide +kernel
theorem dX8_next_218 : decode cX8_next 218 = .ok (.if_icmp .eq 39, 3) := by decide +kernel
theorem dX8_next_221 : decode cX8_next 221 = .ok (.aload_n 0, 1) := by decide +kernel
theorem dX8_next_222 : decode cX8_next 222 = .ok (.getfield 101, 3) := by decide +kernel
theorem dX8_next_225 : decode cX8_next 225 = .ok (.iload 4, 2) := by decide +kernel
theorem dX8_next_227 : decode cX8_next 227 = .ok (.iaload, 1) := by decide +kernel
theorem dX8_next_228 : decode cX8_next 228 = .ok (.bipush 100, 2) := by decide +kernel
theorem dX8_next_230 : decode cX8_next 230 = .ok (.if_icmp .ge 27, 3) := by decide +kernel
theorem dX8_next_233 : decode cX8_next 233 = .ok (.iload_n 3, 1) := by decide +kernel
theorem dX8_next_234 : decode cX8_next 234 = .ok (.iconst (-1), 1) := by decide +kernel
theorem dX8_next_235 : decode cX8_next 235 = .ok (.if_icmp .eq 19, 3) := by decide +kernel
theorem dX8_next_238 : decode cX8_next 238 = .ok (.aload_n 0, 1) := by decide +kernel
theorem dX8_next_239 : decode cX8_next 239 = .ok (.getfield 101, 3) := by decide +kernel
theorem dX8_next_242 : decode cX8_next 242 = .ok (.iload 4, 2) := by decide +kernel
theorem dX8_next_244 : decode cX8_next 244 = .ok (.iaload, 1) := by decide +kernel
theorem dX8_next_245 : decode cX8_next 245 = .ok (.aload_n 0, 1) := by decide +kernel
theorem dX8_next_246 : decode cX8_next 246 = .ok (.getfield 101, 3) := by decide +kernel
theorem dX8_next_249 : decode cX8_next 249 = .ok (.iload_n 3, 1) := by decide +kernel
theorem dX8_next_250 : decode cX8_next 250 = .ok (.iaload, 1) := by decide +kernel
theorem dX8_next_251 : decode cX8_next 251 = .ok (.if_icmp .ge 6, 3) := by decide +kernel
theorem dX8_next_254 : decode cX8_next 254 = .ok (.iload 4, 2) := by decide +kernel
theorem dX8_next_256 : decode cX8_next 256 = .ok (.istore_n 3, 1) := by decide +kernel
theorem dX8_next_257 : decode cX8_next 257 = .ok (.iinc 4 1, 3) := by decide +kernel
theorem dX8_next_260 : decode cX8_next 260 = .ok (.goto (-59), 3) := by decide +kernel
theorem dX8_next_263 : decode cX8_next 263 = .ok (.iload_n 3, 1) := by decide +kernel
theorem dX8_next_264 : decode cX8_next 264 = .ok (.ireturn, 1) := by decide +kernel
set_option maxRecDepth 20000 in
theorem ggX8_want_X8_isWare : GoodIn wsX8_want wsX8_isWare := goodIn_r _ [5, 6, 7, 4, 8] (by decide +kernel) (by decide +kernel)
set_option maxRecDepth 20000 in
theorem gX8_want_X8_isWare : GoodIn wsX8_want (va_wsS RX8 127 yX8_isWare wsX8_isWare) := goodIn_app (goodIn_of _ (by decide +kernel)) ggX8_want_X8_isWare
set_option maxRecDepth 20000 in
theorem ggX8_want_X8_in : GoodIn wsX8_want wsX8_in := goodIn_r _ [8] (by decide +kernel) (by decide +kernel)
set_option maxRecDepth 20000 in
theorem gX8_want_X8_in : GoodIn wsX8_want (va_wsS RX8 108 yX8_in wsX8_in) := goodIn_app (goodIn_of _ (by decide +kernel)) ggX8_want_X8_in
theorem dX8_want_0 : decode cX8_want 0 = .ok (.iload_n 1, 1) := by decide +kernel
theorem dX8_want_1 : decode cX8_want 1 = .ok (.invokestatic 127, 3) := by decide +kernel
theorem dX8_want_4 : decode cX8_want 4 = .ok (.ifCond .eq 24, 3) := by decide +kernel
theorem dX8_want_7 : decode cX8_want 7 = .ok (.iload_n 2, 1) := by decide +kernel
theorem dX8_want_8 : decode cX8_want 8 = .ok (.iconst 0, 1) := by decide +kernel
theorem dX8_want_9 : decode cX8_want 9 = .ok (.bipush 20, 2) := by decide +kernel
theorem dX8_want_11 : decode cX8_want 11 = .ok (.invokestatic 108, 3) := by decide +kernel
theorem dX8_want_14 : decode cX8_want 14 = .ok (.ifCond .eq 14, 3) := by decide +kernel
theorem dX8_want_17 : decode cX8_want 17 = .ok (.iload_n 3, 1) := by decide +kernel
theorem dX8_want_18 : decode cX8_want 18 = .ok (.iconst 0, 1) := by decide +kernel
theorem dX8_want_19 : decode cX8_want 19 = .ok (.sipush 1000, 3) := by decide +kernel
theorem dX8_want_22 : decode cX8_want 22 = .ok (.invokestatic 108, 3) := by decide +kernel
theorem dX8_want_25 : decode cX8_want 25 = .ok (.ifCond .ne 5, 3) := by decide +kernel
theorem dX8_want_28 : decode cX8_want 28 = .ok (.iconst 0, 1) := by decide +kernel
theorem dX8_want_29 : decode cX8_want 29 = .ok (.ireturn, 1) := by decide +kernel
theorem dX8_want_30 : decode cX8_want 30 = .ok (.aload_n 0, 1) := by decide +kernel
theorem dX8_want_31 : decode cX8_want 31 = .ok (.getfield 95, 3) := by decide +kernel
theorem dX8_want_34 : decode cX8_want 34 = .ok (.bipush 21, 2) := by decide +kernel
theorem dX8_want_36 : decode cX8_want 36 = .ok (.iload_n 1, 1) := by decide +kernel
theorem dX8_want_37 : decode cX8_want 37 = .ok (.imul, 1) := by decide +kernel
theorem dX8_want_38 : decode cX8_want 38 = .ok (.iload_n 2, 1) := by decide +kernel
theorem dX8_want_39 : decode cX8_want 39 = .ok (.iadd, 1) := by decide +kernel
theorem dX8_want_40 : decode cX8_want 40 = .ok (.iload_n 3, 1) := by decide +kernel
theorem dX8_want_41 : decode cX8_want 41 = .ok (.iastore, 1) := by decide +kernel
theorem dX8_want_42 : decode cX8_want 42 = .ok (.iconst 1, 1) := by decide +kernel
theorem dX8_want_43 : decode cX8_want 43 = .ok (.ireturn, 1) := by decide +kernel
set_option maxRecDepth 20000 in
theorem ggX8_cost_X8_isPost : GoodIn wsX8_cost wsX8_isPost := goodIn_r _ [6, 7, 8, 9, 5, 10, 19, 20, 21, 22, 23, 24, 25, 26, 27, 28, 29, 30, 31, 32, 33, 34, 35, 36, 37, 38, 39, 40, 41, 42, 43, 44, 45, 46, 47, 48, 49, 50, 51, 52, 53, 54, 55] (by decide +kernel) (by decide +kernel)
set_option maxRecDepth 20000 in
theorem gX8_cost_X8_isPost : GoodIn wsX8_cost (wsV RX8 119 RX8 yX8_isPost wsX8_isPost) := goodIn_app (goodIn_of _ (by decide +kernel)) ggX8_cost_X8_isPost
set_option maxRecDepth 20000 in
theorem ggX8_cost_X8_isWare : GoodIn wsX8_cost wsX8_isWare := goodIn_r _ [13, 8, 9, 5, 10] (by decide +kernel) (by decide +kernel)
set_option maxRecDepth 20000 in
theorem gX8_cost_X8_isWare : GoodIn wsX8_cost (va_wsS RX8 127 yX8_isWare wsX8_isWare) := goodIn_app (goodIn_of _ (by decide +kernel)) ggX8_cost_X8_isWare
set_option maxRecDepth 20000 in
theorem ggX8_cost_X8_in : GoodIn wsX8_cost wsX8_in := goodIn_r _ [10] (by decide +kernel) (by decide +kernel)
set_option maxRecDepth 20000 in
theorem gX8_cost_X8_in : GoodIn wsX8_cost (va_wsS RX8 108 yX8_in wsX8_in) := goodIn_app (goodIn_of _ (by decide +kernel)) ggX8_cost_X8_in
set_option maxRecDepth 20000 in
theorem ggX8_cost_X8_stored : GoodIn wsX8_cost wsX8_stored := goodIn_r _ [17, 18, 19, 20, 21, 22, 23, 24, 25, 26, 27, 28, 29, 30, 31, 32, 33, 34, 35, 36, 37, 38, 39, 40, 41, 42, 43, 44, 45, 46, 47, 48, 49, 50, 51, 52, 53, 54, 55] (by decide +kernel) (by decide +kernel)
set_option maxRecDepth 20000 in
theorem gX8_cost_X8_stored : GoodIn wsX8_cost (wsV RX8 130 RX8 yX8_stored wsX8_stored) := goodIn_app (goodIn_of _ (by decide +kernel)) ggX8_cost_X8_stored
theorem dX8_cost_0 : decode cX8_cost 0 = .ok (.aload_n 0, 1) := by decide +kernel
theorem dX8_cost_1 : decode cX8_cost 1 = .ok (.iload_n 1, 1) := by decide +kernel
theorem dX8_cost_2 : decode cX8_cost 2 = .ok (.invokevirtual 119, 3) := by decide +kernel
theorem dX8_cost_5 : decode cX8_cost 5 = .ok (.ifCond .eq 42, 3) := by decide +kernel
theorem dX8_cost_8 : decode cX8_cost 8 = .ok (.iload_n 2, 1) := by decide +kernel
theorem dX8_cost_9 : decode cX8_cost 9 = .ok (.invokestatic 127, 3) := by decide +kernel
theorem dX8_cost_12 : decode cX8_cost 12 = .ok (.ifCond .eq 35, 3) := by decide +kernel
theorem dX8_cost_15 : decode cX8_cost 15 = .ok (.iload_n 3, 1) := by decide +kernel
theorem dX8_cost_16 : decode cX8_cost 16 = .ok (.iconst 0, 1) := by decide +kernel
theorem dX8_cost_17 : decode cX8_cost 17 = .ok (.bipush 100, 2) := by decide +kernel
theorem dX8_cost_19 : decode cX8_cost 19 = .ok (.invokestatic 108, 3) := by decide +kernel
theorem dX8_cost_22 : decode cX8_cost 22 = .ok (.ifCond .eq 25, 3) := by decide +kernel
theorem dX8_cost_25 : decode cX8_cost 25 = .ok (.iload 4, 2) := by decide +kernel
theorem dX8_cost_27 : decode cX8_cost 27 = .ok (.iconst 0, 1) := by decide +kernel
theorem dX8_cost_28 : decode cX8_cost 28 = .ok (.bipush 100, 2) := by decide +kernel
theorem dX8_cost_30 : decode cX8_cost 30 = .ok (.invokestatic 108, 3) := by decide +kernel
theorem dX8_cost_33 : decode cX8_cost 33 = .ok (.ifCond .eq 14, 3) := by decide +kernel
theorem dX8_cost_36 : decode cX8_cost 36 = .ok (.iload 5, 2) := by decide +kernel
theorem dX8_cost_38 : decode cX8_cost 38 = .ok (.iconst 0, 1) := by decide +kernel
theorem dX8_cost_39 : decode cX8_cost 39 = .ok (.bipush 20, 2) := by decide +kernel
theorem dX8_cost_41 : decode cX8_cost 41 = .ok (.invokestatic 108, 3) := by decide +kernel
theorem dX8_cost_44 : decode cX8_cost 44 = .ok (.ifCond .ne 5, 3) := by decide +kernel
theorem dX8_cost_47 : decode cX8_cost 47 = .ok (.iconst (-1), 1) := by decide +kernel
theorem dX8_cost_48 : decode cX8_cost 48 = .ok (.ireturn, 1) := by decide +kernel
theorem dX8_cost_49 : decode cX8_cost 49 = .ok (.iconst 0, 1) := by decide +kernel
theorem dX8_cost_50 : decode cX8_cost 50 = .ok (.istore 6, 2) := by decide +kernel
theorem dX8_cost_52 : decode cX8_cost 52 = .ok (.iconst 0, 1) := by decide +kernel
theorem dX8_cost_53 : decode cX8_cost 53 = .ok (.istore 7, 2) := by decide +kernel
theorem dX8_cost_55 : decode cX8_cost 55 = .ok (.iload 7, 2) := by decide +kernel
theorem dX8_cost_57 : decode cX8_cost 57 = .ok (.bipush 21, 2) := by decide +kernel
theorem dX8_cost_59 : decode cX8_cost 59 = .ok (.if_icmp .ge 26, 3) := by decide +kernel
theorem dX8_cost_62 : decode cX8_cost 62 = .ok (.iload 6, 2) := by decide +kernel
theorem dX8_cost_64 : decode cX8_cost 64 = .ok (.aload_n 0, 1) := by decide +kernel
theorem dX8_cost_65 : decode cX8_cost 65 = .ok (.getfield 95, 3) := by decide +kernel
theorem dX8_cost_68 : decode cX8_cost 68 = .ok (.bipush 21, 2) := by decide +kernel
theorem dX8_cost_70 : decode cX8_cost 70 = .ok (.iload_n 2, 1) := by decide +kernel
theorem dX8_cost_71 : decode cX8_cost 71 = .ok (.imul, 1) := by decide +kernel
theorem dX8_cost_72 : decode cX8_cost 72 = .ok (.iload 7, 2) := by decide +kernel
theorem dX8_cost_74 : decode cX8_cost 74 = .ok (.iadd, 1) := by decide +kernel
theorem dX8_cost_75 : decode cX8_cost 75 = .ok (.iaload, 1) := by decide +kernel
theorem dX8_cost_76 : decode cX8_cost 76 = .ok (.iadd, 1) := by decide +kernel
theorem dX8_cost_77 : decode cX8_cost 77 = .ok (.istore 6, 2) := by decide +kernel
theorem dX8_cost_79 : decode cX8_cost 79 = .ok (.iinc 7 1, 3) := by decide +kernel
theorem dX8_cost_82 : decode cX8_cost 82 = .ok (.goto (-27), 3) := by decide +kernel
theorem dX8_cost_85 : decode cX8_cost 85 = .ok (.iload 6, 2) := by decide +kernel
theorem dX8_cost_87 : decode cX8_cost 87 = .ok (.sipush 1000, 3) := by decide +kernel
theorem dX8_cost_90 : decode cX8_cost 90 = .ok (.if_icmp .eq 5, 3) := by decide +kernel
theorem dX8_cost_93 : decode cX8_cost 93 = .ok (.iconst (-1), 1) := by decide +kernel
theorem dX8_cost_94 : decode cX8_cost 94 = .ok (.ireturn, 1) := by decide +kernel
theorem dX8_cost_95 : decode cX8_cost 95 = .ok (.iconst 0, 1) := by decide +kernel
theorem dX8_cost_96 : decode cX8_cost 96 = .ok (.istore 7, 2) := by decide +kernel
theorem dX8_cost_98 : decode cX8_cost 98 = .ok (.aload_n 0, 1) := by decide +kernel
theorem dX8_cost_99 : decode cX8_cost 99 = .ok (.iload_n 1, 1) := by decide +kernel
theorem dX8_cost_100 : decode cX8_cost 100 = .ok (.iload_n 2, 1) := by decide +kernel
theorem dX8_cost_101 : decode cX8_cost 101 = .ok (.invokevirtual 130, 3) := by decide +kernel
theorem dX8_cost_104 : decode cX8_cost 104 = .ok (.sipush 1000, 3) := by decide +kernel
theorem dX8_cost_107 : decode cX8_cost 107 = .ok (.if_icmp .le 9, 3) := by decide +kernel
theorem dX8_cost_110 : decode cX8_cost 110 = .ok (.sipush 1000, 3) := by decide +kernel
theorem dX8_cost_113 : decode cX8_cost 113 = .ok (.goto 9, 3) := by decide +kernel
theorem dX8_cost_116 : decode cX8_cost 116 = .ok (.aload_n 0, 1) := by decide +kernel
theorem dX8_cost_117 : decode cX8_cost 117 = .ok (.iload_n 1, 1) := by decide +kernel
theorem dX8_cost_118 : decode cX8_cost 118 = .ok (.iload_n 2, 1) := by decide +kernel
theorem dX8_cost_119 : decode cX8_cost 119 = .ok (.invokevirtual 130, 3) := by decide +kernel
theorem dX8_cost_122 : decode cX8_cost 122 = .ok (.iload 5, 2) := by decide +kernel
theorem dX8_cost_124 : decode cX8_cost 124 = .ok (.iadd, 1) := by decide +kernel
theorem dX8_cost_125 : decode cX8_cost 125 = .ok (.istore 8, 2) := by decide +kernel
theorem dX8_cost_127 : decode cX8_cost 127 = .ok (.iconst 0, 1) := by decide +kernel
theorem dX8_cost_128 : decode cX8_cost 128 = .ok (.istore 9, 2) := by decide +kernel
theorem dX8_cost_130 : decode cX8_cost 130 = .ok (.iload 9, 2) := by decide +kernel
theorem dX8_cost_132 : decode cX8_cost 132 = .ok (.bipush 21, 2) := by decide +kernel
theorem dX8_cost_134 : decode cX8_cost 134 = .ok (.if_icmp .ge 65, 3) := by decide +kernel
theorem dX8_cost_137 : decode cX8_cost 137 = .ok (.iload 7, 2) := by decide +kernel
theorem dX8_cost_139 : decode cX8_cost 139 = .ok (.iload 9, 2) := by decide +kernel
theorem dX8_cost_141 : decode cX8_cost 141 = .ok (.iload 8, 2) := by decide +kernel
theorem dX8_cost_143 : decode cX8_cost 143 = .ok (.if_icmp .le 26, 3) := by decide +kernel
theorem dX8_cost_146 : decode cX8_cost 146 = .ok (.aload_n 0, 1) := by decide +kernel
theorem dX8_cost_147 : decode cX8_cost 147 = .ok (.getfield 95, 3) := by decide +kernel
theorem dX8_cost_150 : decode cX8_cost 150 = .ok (.bipush 21, 2) := by decide +kernel
theorem dX8_cost_152 : decode cX8_cost 152 = .ok (.iload_n 2, 1) := by decide +kernel
theorem dX8_cost_153 : decode cX8_cost 153 = .ok (.imul, 1) := by decide +kernel
theorem dX8_cost_154 : decode cX8_cost 154 = .ok (.iload 9, 2) := by decide +kernel
theorem dX8_cost_156 : decode cX8_cost 156 = .ok (.iadd, 1) := by decide +kernel
theorem dX8_cost_157 : decode cX8_cost 157 = .ok (.iaload, 1) := by decide +kernel
theorem dX8_cost_158 : decode cX8_cost 158 = .ok (.iload_n 3, 1) := by decide +kernel
theorem dX8_cost_159 : decode cX8_cost 159 = .ok (.imul, 1) := by decide +kernel
theorem dX8_cost_160 : decode cX8_cost 160 = .ok (.iload 9, 2) := by decide +kernel
theorem dX8_cost_162 : decode cX8_cost 162 = .ok (.iload 8, 2) := by decide +kernel
theorem dX8_cost_164 : decode cX8_cost 164 = .ok (.isub, 1) := by decide +kernel
theorem dX8_cost_165 : decode cX8_cost 165 = .ok (.imul, 1) := by decide +kernel
theorem dX8_cost_166 : decode cX8_cost 166 = .ok (.goto 24, 3) := by decide +kernel
theorem dX8_cost_169 : decode cX8_cost 169 = .ok (.aload_n 0, 1) := by decide +kernel
theorem dX8_cost_170 : decode cX8_cost 170 = .ok (.getfield 95, 3) := by decide +kernel
theorem dX8_cost_173 : decode cX8_cost 173 = .ok (.bipush 21, 2) := by decide +kernel
theorem dX8_cost_175 : decode cX8_cost 175 = .ok (.iload_n 2, 1) := by decide +kernel
theorem dX8_cost_176 : decode cX8_cost 176 = .ok (.imul, 1) := by decide +kernel
theorem dX8_cost_177 : decode cX8_cost 177 = .ok (.iload 9, 2) := by decide +kernel
theorem dX8_cost_179 : decode cX8_cost 179 = .ok (.iadd, 1) := by decide +kernel
theorem dX8_cost_180 : decode cX8_cost 180 = .ok (.iaload, 1) := by decide +kernel
theorem dX8_cost_181 : decode cX8_cost 181 = .ok (.iload 4, 2) := by decide +kernel
theorem dX8_cost_183 : decode cX8_cost 183 = .ok (.imul, 1) := by decide +kernel
theorem dX8_cost_184 : decode cX8_cost 184 = .ok (.iload 8, 2) := by decide +kernel
theorem dX8_cost_186 : decode cX8_cost 186 = .ok (.iload 9, 2) := by decide +kernel
theorem dX8_cost_188 : decode cX8_cost 188 = .ok (.isub, 1) := by decide +kernel
theorem dX8_cost_189 : decode cX8_cost 189 = .ok (.imul, 1) := by decide +kernel
theorem dX8_cost_190 : decode cX8_cost 190 = .ok (.iadd, 1) := by decide +kernel
theorem dX8_cost_191 : decode cX8_cost 191 = .ok (.istore 7, 2) := by decide +kernel
theorem dX8_cost_193 : decode cX8_cost 193 = .ok (.iinc 9 1, 3) := by decide +kernel
theorem dX8_cost_196 : decode cX8_cost 196 = .ok (.goto (-66), 3) := by decide +kernel
theorem dX8_cost_199 : decode cX8_cost 199 = .ok (.iload 7, 2) := by decide +kernel
theorem dX8_cost_201 : decode cX8_cost 201 = .ok (.ireturn, 1) := by decide +kernel
set_option maxRecDepth 20000 in
theorem ggX8_indent_X8_cost : GoodIn wsX8_indent wsX8_cost := goodIn_r _ [5, 6, 7, 8, 9, 4, 10, 11, 12, 13, 14, 15, 16, 17, 18, 19, 20, 21, 22, 23, 24, 25, 26, 27, 28, 29, 30, 31, 32, 33, 34, 35, 36, 37, 38, 39, 40, 41, 42, 43, 44, 45, 46, 47, 48, 49, 50, 51, 52, 53, 54, 55, 56, 57, 58, 59] (by decide +kernel) (by decide +kernel)
set_option maxRecDepth 20000 in
theorem gX8_indent_X8_cost : GoodIn wsX8_indent (wsV RX8 180 RX8 yX8_cost wsX8_cost) := goodIn_app (goodIn_of _ (by decide +kernel)) ggX8_indent_X8_cost
theorem dX8_indent_0 : decode cX8_indent 0 = .ok (.iconst (-1), 1) := by decide +kernel
theorem dX8_indent_1 : decode cX8_indent 1 = .ok (.istore 5, 2) := by decide +kernel
theorem dX8_indent_3 : decode cX8_indent 3 = .ok (.iconst 0, 1) := by decide +kernel
theorem dX8_indent_4 : decode cX8_indent 4 = .ok (.istore 6, 2) := by decide +kernel
theorem dX8_indent_6 : decode cX8_indent 6 = .ok (.iload 6, 2) := by decide +kernel
theorem dX8_indent_8 : decode cX8_indent 8 = .ok (.bipush 21, 2) := by decide +kernel
theorem dX8_indent_10 : decode cX8_indent 10 = .ok (.if_icmp .ge 56, 3) := by decide +kernel
theorem dX8_indent_13 : decode cX8_indent 13 = .ok (.aload_n 0, 1) := by decide +kernel
theorem dX8_indent_14 : decode cX8_indent 14 = .ok (.iload_n 1, 1) := by decide +kernel
theorem dX8_indent_15 : decode cX8_indent 15 = .ok (.iload_n 2, 1) := by decide +kernel
theorem dX8_indent_16 : decode cX8_indent 16 = .ok (.iload_n 3, 1) := by decide +kernel
theorem dX8_indent_17 : decode cX8_indent 17 = .ok (.iload 4, 2) := by decide +kernel
theorem dX8_indent_19 : decode cX8_indent 19 = .ok (.iload 6, 2) := by decide +kernel
theorem dX8_indent_21 : decode cX8_indent 21 = .ok (.invokevirtual 180, 3) := by decide +kernel
theorem dX8_indent_24 : decode cX8_indent 24 = .ok (.istore 7, 2) := by decide +kernel
theorem dX8_indent_26 : decode cX8_indent 26 = .ok (.iload 7, 2) := by decide +kernel
theorem dX8_indent_28 : decode cX8_indent 28 = .ok (.iconst (-1), 1) := by decide +kernel
theorem dX8_indent_29 : decode cX8_indent 29 = .ok (.if_icmp .ne 5, 3) := by decide +kernel
theorem dX8_indent_32 : decode cX8_indent 32 = .ok (.iconst (-1), 1) := by decide +kernel
theorem dX8_indent_33 : decode cX8_indent 33 = .ok (.ireturn, 1) := by decide +kernel
theorem dX8_indent_34 : decode cX8_indent 34 = .ok (.iload 5, 2) := by decide +kernel
theorem dX8_indent_36 : decode cX8_indent 36 = .ok (.iconst (-1), 1) := by decide +kernel
theorem dX8_indent_37 : decode cX8_indent 37 = .ok (.if_icmp .eq 19, 3) := by decide +kernel
theorem dX8_indent_40 : decode cX8_indent 40 = .ok (.iload 7, 2) := by decide +kernel
theorem dX8_indent_42 : decode cX8_indent 42 = .ok (.aload_n 0, 1) := by decide +kernel
theorem dX8_indent_43 : decode cX8_indent 43 = .ok (.iload_n 1, 1) := by decide +kernel
theorem dX8_indent_44 : decode cX8_indent 44 = .ok (.iload_n 2, 1) := by decide +kernel
theorem dX8_indent_45 : decode cX8_indent 45 = .ok (.iload_n 3, 1) := by decide +kernel
theorem dX8_indent_46 : decode cX8_indent 46 = .ok (.iload 4, 2) := by decide +kernel
theorem dX8_indent_48 : decode cX8_indent 48 = .ok (.iload 5, 2) := by decide +kernel
theorem dX8_indent_50 : decode cX8_indent 50 = .ok (.invokevirtual 180, 3) := by decide +kernel
theorem dX8_indent_53 : decode cX8_indent 53 = .ok (.if_icmp .ge 7, 3) := by decide +kernel
theorem dX8_indent_56 : decode cX8_indent 56 = .ok (.iload 6, 2) := by decide +kernel
theorem dX8_indent_58 : decode cX8_indent 58 = .ok (.istore 5, 2) := by decide +kernel
theorem dX8_indent_60 : decode cX8_indent 60 = .ok (.iinc 6 1, 3) := by decide +kernel
theorem dX8_indent_63 : decode cX8_indent 63 = .ok (.goto (-57), 3) := by decide +kernel
theorem dX8_indent_66 : decode cX8_indent 66 = .ok (.iload 5, 2) := by decide +kernel
theorem dX8_indent_68 : decode cX8_indent 68 = .ok (.ireturn, 1) := by decide +kernel
set_option maxRecDepth 20000 in
theorem ggX8_quarrel_X8_isPost : GoodIn wsX8_quarrel wsX8_isPost := goodIn_r _ [10, 11, 12, 13, 9, 14, 15, 16, 17, 18, 19, 20, 21, 22, 23, 24, 25, 26, 27, 28, 29, 30, 31, 32, 33, 34, 35, 36, 37, 38, 39, 40, 41, 42, 43, 44, 45, 46, 47, 48, 49, 50, 51] (by decide +kernel) (by decide +kernel)
set_option maxRecDepth 20000 in
theorem gX8_quarrel_X8_isPost : GoodIn wsX8_quarrel (wsV RX8 119 RX8 yX8_isPost wsX8_isPost) := goodIn_app (goodIn_of _ (by decide +kernel)) ggX8_quarrel_X8_isPost
theorem dX8_quarrel_0 : decode cX8_quarrel 0 = .ok (.aload_n 0, 1) := by decide +kernel
theorem dX8_quarrel_1 : decode cX8_quarrel 1 = .ok (.iload_n 1, 1) := by decide +kernel
theorem dX8_quarrel_2 : decode cX8_quarrel 2 = .ok (.invokevirtual 119, 3) := by decide +kernel
theorem dX8_quarrel_5 : decode cX8_quarrel 5 = .ok (.ifCond .eq 11, 3) := by decide +kernel
theorem dX8_quarrel_8 : decode cX8_quarrel 8 = .ok (.aload_n 0, 1) := by decide +kernel
theorem dX8_quarrel_9 : decode cX8_quarrel 9 = .ok (.iload_n 2, 1) := by decide +kernel
theorem dX8_quarrel_10 : decode cX8_quarrel 10 = .ok (.invokevirtual 119, 3) := by decide +kernel
theorem dX8_quarrel_13 : decode cX8_quarrel 13 = .ok (.ifCond .ne 5, 3) := by decide +kernel
theorem dX8_quarrel_16 : decode cX8_quarrel 16 = .ok (.iconst (-1), 1) := by decide +kernel
theorem dX8_quarrel_17 : decode cX8_quarrel 17 = .ok (.ireturn, 1) := by decide +kernel
theorem dX8_quarrel_18 : decode cX8_quarrel 18 = .ok (.iconst 0, 1) := by decide +kernel
theorem dX8_quarrel_19 : decode cX8_quarrel 19 = .ok (.istore_n 3, 1) := by decide +kernel
theorem dX8_quarrel_20 : decode cX8_quarrel 20 = .ok (.iload_n 3, 1) := by decide +kernel
theorem dX8_quarrel_21 : decode cX8_quarrel 21 = .ok (.aload_n 0, 1) := by decide +kernel
theorem dX8_quarrel_22 : decode cX8_quarrel 22 = .ok (.getfield 112, 3) := by decide +kernel
theorem dX8_quarrel_25 : decode cX8_quarrel 25 = .ok (.if_icmp .ge 92, 3) := by decide +kernel
theorem dX8_quarrel_28 : decode cX8_quarrel 28 = .ok (.aload_n 0, 1) := by decide +kernel
theorem dX8_quarrel_29 : decode cX8_quarrel 29 = .ok (.getfield 40, 3) := by decide +kernel
theorem dX8_quarrel_32 : decode cX8_quarrel 32 = .ok (.iload_n 3, 1) := by decide +kernel
theorem dX8_quarrel_33 : decode cX8_quarrel 33 = .ok (.iaload, 1) := by decide +kernel
theorem dX8_quarrel_34 : decode cX8_quarrel 34 = .ok (.iload_n 1, 1) := by decide +kernel
theorem dX8_quarrel_35 : decode cX8_quarrel 35 = .ok (.if_icmp .ne 13, 3) := by decide +kernel
theorem dX8_quarrel_38 : decode cX8_quarrel 38 = .ok (.aload_n 0, 1) := by decide +kernel
theorem dX8_quarrel_39 : decode cX8_quarrel 39 = .ok (.getfield 43, 3) := by decide +kernel
theorem dX8_quarrel_42 : decode cX8_quarrel 42 = .ok (.iload_n 3, 1) := by decide +kernel
theorem dX8_quarrel_43 : decode cX8_quarrel 43 = .ok (.iaload, 1) := by decide +kernel
theorem dX8_quarrel_44 : decode cX8_quarrel 44 = .ok (.iload_n 2, 1) := by decide +kernel
theorem dX8_quarrel_45 : decode cX8_quarrel 45 = .ok (.if_icmp .eq 23, 3) := by decide +kernel
theorem dX8_quarrel_48 : decode cX8_quarrel 48 = .ok (.aload_n 0, 1) := by decide +kernel
theorem dX8_quarrel_49 : decode cX8_quarrel 49 = .ok (.getfield 40, 3) := by decide +kernel
theorem dX8_quarrel_52 : decode cX8_quarrel 52 = .ok (.iload_n 3, 1) := by decide +kernel
theorem dX8_quarrel_53 : decode cX8_quarrel 53 = .ok (.iaload, 1) := by decide +kernel
theorem dX8_quarrel_54 : decode cX8_quarrel 54 = .ok (.iload_n 2, 1) := by decide +kernel
theorem dX8_quarrel_55 : decode cX8_quarrel 55 = .ok (.if_icmp .ne 17, 3) := by decide +kernel
theorem dX8_quarrel_58 : decode cX8_quarrel 58 = .ok (.aload_n 0, 1) := by decide +kernel
theorem dX8_quarrel_59 : decode cX8_quarrel 59 = .ok (.getfield 43, 3) := by decide +kernel
theorem dX8_quarrel_62 : decode cX8_quarrel 62 = .ok (.iload_n 3, 1) := by decide +kernel
theorem dX8_quarrel_63 : decode cX8_quarrel 63 = .ok (.iaload, 1) := by decide +kernel
theorem dX8_quarrel_64 : decode cX8_quarrel 64 = .ok (.iload_n 1, 1) := by decide +kernel
theorem dX8_quarrel_65 : decode cX8_quarrel 65 = .ok (.if_icmp .ne 7, 3) := by decide +kernel
theorem dX8_quarrel_68 : decode cX8_quarrel 68 = .ok (.iconst 1, 1) := by decide +kernel
theorem dX8_quarrel_69 : decode cX8_quarrel 69 = .ok (.goto 4, 3) := by decide +kernel
theorem dX8_quarrel_72 : decode cX8_quarrel 72 = .ok (.iconst 0, 1) := by decide +kernel
theorem dX8_quarrel_73 : decode cX8_quarrel 73 = .ok (.istore 4, 2) := by decide +kernel
theorem dX8_quarrel_75 : decode cX8_quarrel 75 = .ok (.iload 4, 2) := by decide +kernel
theorem dX8_quarrel_77 : decode cX8_quarrel 77 = .ok (.ifCond .eq 34, 3) := by decide +kernel
theorem dX8_quarrel_80 : decode cX8_quarrel 80 = .ok (.aload_n 0, 1) := by decide +kernel
theorem dX8_quarrel_81 : decode cX8_quarrel 81 = .ok (.getfield 52, 3) := by decide +kernel
theorem dX8_quarrel_84 : decode cX8_quarrel 84 = .ok (.iload_n 3, 1) := by decide +kernel
theorem dX8_quarrel_85 : decode cX8_quarrel 85 = .ok (.iaload, 1) := by decide +kernel
theorem dX8_quarrel_86 : decode cX8_quarrel 86 = .ok (.iconst 2, 1) := by decide +kernel
theorem dX8_quarrel_87 : decode cX8_quarrel 87 = .ok (.if_icmp .eq 22, 3) := by decide +kernel
theorem dX8_quarrel_90 : decode cX8_quarrel 90 = .ok (.aload_n 0, 1) := by decide +kernel
theorem dX8_quarrel_91 : decode cX8_quarrel 91 = .ok (.getfield 52, 3) := by decide +kernel
theorem dX8_quarrel_94 : decode cX8_quarrel 94 = .ok (.iload_n 3, 1) := by decide +kernel
theorem dX8_quarrel_95 : decode cX8_quarrel 95 = .ok (.iaload, 1) := by decide +kernel
theorem dX8_quarrel_96 : decode cX8_quarrel 96 = .ok (.iconst 1, 1) := by decide +kernel
theorem dX8_quarrel_97 : decode cX8_quarrel 97 = .ok (.if_icmp .ne 14, 3) := by decide +kernel
theorem dX8_quarrel_100 : decode cX8_quarrel 100 = .ok (.aload_n 0, 1) := by decide +kernel
theorem dX8_quarrel_101 : decode cX8_quarrel 101 = .ok (.getfield 70, 3) := by decide +kernel
theorem dX8_quarrel_104 : decode cX8_quarrel 104 = .ok (.iload_n 3, 1) := by decide +kernel
theorem dX8_quarrel_105 : decode cX8_quarrel 105 = .ok (.baload, 1) := by decide +kernel
theorem dX8_quarrel_106 : decode cX8_quarrel 106 = .ok (.ifCond .eq 5, 3) := by decide +kernel
theorem dX8_quarrel_109 : decode cX8_quarrel 109 = .ok (.iload_n 3, 1) := by decide +kernel
theorem dX8_quarrel_110 : decode cX8_quarrel 110 = .ok (.ireturn, 1) := by decide +kernel
theorem dX8_quarrel_111 : decode cX8_quarrel 111 = .ok (.iinc 3 1, 3) := by decide +kernel
theorem dX8_quarrel_114 : decode cX8_quarrel 114 = .ok (.goto (-94), 3) := by decide +kernel
theorem dX8_quarrel_117 : decode cX8_quarrel 117 = .ok (.iconst (-1), 1) := by decide +kernel
theorem dX8_quarrel_118 : decode cX8_quarrel 118 = .ok (.ireturn, 1) := by decide +kernel
set_option maxRecDepth 20000 in
theorem ggX8_canoe_X8_isCanoe : GoodIn wsX8_canoe wsX8_isCanoe := goodIn_r _ [15, 16, 17, 18, 14, 19, 20, 21, 22, 23, 24, 25, 26, 27, 28, 29, 30, 31, 32, 33, 34, 35, 36, 37, 38, 39, 40, 41, 42, 43, 44, 45, 46, 47, 48, 49, 50, 51, 52, 53, 54, 55, 56] (by decide +kernel) (by decide +kernel)
set_option maxRecDepth 20000 in
theorem gX8_canoe_X8_isCanoe : GoodIn wsX8_canoe (wsV RX8 150 RX8 yX8_isCanoe wsX8_isCanoe) := goodIn_app (goodIn_of _ (by decide +kernel)) ggX8_canoe_X8_isCanoe
set_option maxRecDepth 20000 in
theorem ggX8_canoe_X8_in : GoodIn wsX8_canoe wsX8_in := goodIn_r _ [19] (by decide +kernel) (by decide +kernel)
set_option maxRecDepth 20000 in
theorem gX8_canoe_X8_in : GoodIn wsX8_canoe (va_wsS RX8 108 yX8_in wsX8_in) := goodIn_app (goodIn_of _ (by decide +kernel)) ggX8_canoe_X8_in
theorem dX8_canoe_0 : decode cX8_canoe 0 = .ok (.aload_n 0, 1) := by decide +kernel
theorem dX8_canoe_1 : decode cX8_canoe 1 = .ok (.iload_n 1, 1) := by decide +kernel
theorem dX8_canoe_2 : decode cX8_canoe 2 = .ok (.invokevirtual 150, 3) := by decide +kernel
theorem dX8_canoe_5 : decode cX8_canoe 5 = .ok (.ifCond .ne 5, 3) := by decide +kernel
theorem dX8_canoe_8 : decode cX8_canoe 8 = .ok (.iconst (-1), 1) := by decide +kernel
theorem dX8_canoe_9 : decode cX8_canoe 9 = .ok (.ireturn, 1) := by decide +kernel
theorem dX8_canoe_10 : decode cX8_canoe 10 = .ok (.iload_n 2, 1) := by decide +kernel
theorem dX8_canoe_11 : decode cX8_canoe 11 = .ok (.bipush 10, 2) := by decide +kernel
theorem dX8_canoe_13 : decode cX8_canoe 13 = .ok (.bipush 15, 2) := by decide +kernel
theorem dX8_canoe_15 : decode cX8_canoe 15 = .ok (.invokestatic 108, 3) := by decide +kernel
theorem dX8_canoe_18 : decode cX8_canoe 18 = .ok (.ifCond .eq 18, 3) := by decide +kernel
theorem dX8_canoe_21 : decode cX8_canoe 21 = .ok (.aload_n 0, 1) := by decide +kernel
theorem dX8_canoe_22 : decode cX8_canoe 22 = .ok (.getfield 64, 3) := by decide +kernel
theorem dX8_canoe_25 : decode cX8_canoe 25 = .ok (.bipush 6, 2) := by decide +kernel
theorem dX8_canoe_27 : decode cX8_canoe 27 = .ok (.iload_n 1, 1) := by decide +kernel
theorem dX8_canoe_28 : decode cX8_canoe 28 = .ok (.imul, 1) := by decide +kernel
theorem dX8_canoe_29 : decode cX8_canoe 29 = .ok (.iload_n 2, 1) := by decide +kernel
theorem dX8_canoe_30 : decode cX8_canoe 30 = .ok (.iadd, 1) := by decide +kernel
theorem dX8_canoe_31 : decode cX8_canoe 31 = .ok (.bipush 10, 2) := by decide +kernel
theorem dX8_canoe_33 : decode cX8_canoe 33 = .ok (.isub, 1) := by decide +kernel
theorem dX8_canoe_34 : decode cX8_canoe 34 = .ok (.iaload, 1) := by decide +kernel
theorem dX8_canoe_35 : decode cX8_canoe 35 = .ok (.ireturn, 1) := by decide +kernel
theorem dX8_canoe_36 : decode cX8_canoe 36 = .ok (.iload_n 2, 1) := by decide +kernel
theorem dX8_canoe_37 : decode cX8_canoe 37 = .ok (.bipush 20, 2) := by decide +kernel
theorem dX8_canoe_39 : decode cX8_canoe 39 = .ok (.bipush 25, 2) := by decide +kernel
theorem dX8_canoe_41 : decode cX8_canoe 41 = .ok (.invokestatic 108, 3) := by decide +kernel
theorem dX8_canoe_44 : decode cX8_canoe 44 = .ok (.ifCond .eq 18, 3) := by decide +kernel
theorem dX8_canoe_47 : decode cX8_canoe 47 = .ok (.aload_n 0, 1) := by decide +kernel
theorem dX8_canoe_48 : decode cX8_canoe 48 = .ok (.getfield 67, 3) := by decide +kernel
theorem dX8_canoe_51 : decode cX8_canoe 51 = .ok (.bipush 6, 2) := by decide +kernel
theorem dX8_canoe_53 : decode cX8_canoe 53 = .ok (.iload_n 1, 1) := by decide +kernel
theorem dX8_canoe_54 : decode cX8_canoe 54 = .ok (.imul, 1) := by decide +kernel
theorem dX8_canoe_55 : decode cX8_canoe 55 = .ok (.iload_n 2, 1) := by decide +kernel
theorem dX8_canoe_56 : decode cX8_canoe 56 = .ok (.iadd, 1) := by decide +kernel
theorem dX8_canoe_57 : decode cX8_canoe 57 = .ok (.bipush 20, 2) := by decide +kernel
theorem dX8_canoe_59 : decode cX8_canoe 59 = .ok (.isub, 1) := by decide +kernel
theorem dX8_canoe_60 : decode cX8_canoe 60 = .ok (.iaload, 1) := by decide +kernel
theorem dX8_canoe_61 : decode cX8_canoe 61 = .ok (.ireturn, 1) := by decide +kernel
theorem dX8_canoe_62 : decode cX8_canoe 62 = .ok (.iload_n 2, 1) := by decide +kernel
theorem dX8_canoe_63 : decode cX8_canoe 63 = .ok (.tableswitch 114 0 7 #[45, 52, 59, 66, 86, 93, 100, 107], 45) := by decide +kernel
theorem dX8_canoe_108 : decode cX8_canoe 108 = .ok (.aload_n 0, 1) := by decide +kernel
theorem dX8_canoe_109 : decode cX8_canoe 109 = .ok (.getfield 40, 3) := by decide +kernel
theorem dX8_canoe_112 : decode cX8_canoe 112 = .ok (.iload_n 1, 1) := by decide +kernel
theorem dX8_canoe_113 : decode cX8_canoe 113 = .ok (.iaload, 1) := by decide +kernel
theorem dX8_canoe_114 : decode cX8_canoe 114 = .ok (.ireturn, 1) := by decide +kernel
theorem dX8_canoe_115 : decode cX8_canoe 115 = .ok (.aload_n 0, 1) := by decide +kernel
theorem dX8_canoe_116 : decode cX8_canoe 116 = .ok (.getfield 43, 3) := by decide +kernel
theorem dX8_canoe_119 : decode cX8_canoe 119 = .ok (.iload_n 1, 1) := by decide +kernel
theorem dX8_canoe_120 : decode cX8_canoe 120 = .ok (.iaload, 1) := by decide +kernel
theorem dX8_canoe_121 : decode cX8_canoe 121 = .ok (.ireturn, 1) := by decide +kernel
theorem dX8_canoe_122 : decode cX8_canoe 122 = .ok (.aload_n 0, 1) := by decide +kernel
theorem dX8_canoe_123 : decode cX8_canoe 123 = .ok (.getfield 46, 3) := by decide +kernel
theorem dX8_canoe_126 : decode cX8_canoe 126 = .ok (.iload_n 1, 1) := by decide +kernel
theorem dX8_canoe_127 : decode cX8_canoe 127 = .ok (.iaload, 1) := by decide +kernel
theorem dX8_canoe_128 : decode cX8_canoe 128 = .ok (.ireturn, 1) := by decide +kernel
theorem dX8_canoe_129 : decode cX8_canoe 129 = .ok (.aload_n 0, 1) := by decide +kernel
theorem dX8_canoe_130 : decode cX8_canoe 130 = .ok (.getfield 52, 3) := by decide +kernel
theorem dX8_canoe_133 : decode cX8_canoe 133 = .ok (.iload_n 1, 1) := by decide +kernel
theorem dX8_canoe_134 : decode cX8_canoe 134 = .ok (.iaload, 1) := by decide +kernel
theorem dX8_canoe_135 : decode cX8_canoe 135 = .ok (.ifCond .ne 12, 3) := by decide +kernel
theorem dX8_canoe_138 : decode cX8_canoe 138 = .ok (.aload_n 0, 1) := by decide +kernel
theorem dX8_canoe_139 : decode cX8_canoe 139 = .ok (.getfield 49, 3) := by decide +kernel
theorem dX8_canoe_142 : decode cX8_canoe 142 = .ok (.iload_n 1, 1) := by decide +kernel
theorem dX8_canoe_143 : decode cX8_canoe 143 = .ok (.iaload, 1) := by decide +kernel
theorem dX8_canoe_144 : decode cX8_canoe 144 = .ok (.goto 4, 3) := by decide +kernel
theorem dX8_canoe_147 : decode cX8_canoe 147 = .ok (.iconst 0, 1) := by decide +kernel
theorem dX8_canoe_148 : decode cX8_canoe 148 = .ok (.ireturn, 1) := by decide +kernel
theorem dX8_canoe_149 : decode cX8_canoe 149 = .ok (.aload_n 0, 1) := by decide +kernel
theorem dX8_canoe_150 : decode cX8_canoe 150 = .ok (.getfield 52, 3) := by decide +kernel
theorem dX8_canoe_153 : decode cX8_canoe 153 = .ok (.iload_n 1, 1) := by decide +kernel
theorem dX8_canoe_154 : decode cX8_canoe 154 = .ok (.iaload, 1) := by decide +kernel
theorem dX8_canoe_155 : decode cX8_canoe 155 = .ok (.ireturn, 1) := by decide +kernel
theorem dX8_canoe_156 : decode cX8_canoe 156 = .ok (.aload_n 0, 1) := by decide +kernel
theorem dX8_canoe_157 : decode cX8_canoe 157 = .ok (.getfield 55, 3) := by decide +kernel
theorem dX8_canoe_160 : decode cX8_canoe 160 = .ok (.iload_n 1, 1) := by decide +kernel
theorem dX8_canoe_161 : decode cX8_canoe 161 = .ok (.iaload, 1) := by decide +kernel
theorem dX8_canoe_162 : decode cX8_canoe 162 = .ok (.ireturn, 1) := by decide +kernel
theorem dX8_canoe_163 : decode cX8_canoe 163 = .ok (.aload_n 0, 1) := by decide +kernel
theorem dX8_canoe_164 : decode cX8_canoe 164 = .ok (.getfield 58, 3) := by decide +kernel
theorem dX8_canoe_167 : decode cX8_canoe 167 = .ok (.iload_n 1, 1) := by decide +kernel
theorem dX8_canoe_168 : decode cX8_canoe 168 = .ok (.iaload, 1) := by decide +kernel
theorem dX8_canoe_169 : decode cX8_canoe 169 = .ok (.ireturn, 1) := by decide +kernel
theorem dX8_canoe_170 : decode cX8_canoe 170 = .ok (.aload_n 0, 1) := by decide +kernel
theorem dX8_canoe_171 : decode cX8_canoe 171 = .ok (.getfield 61, 3) := by decide +kernel
theorem dX8_canoe_174 : decode cX8_canoe 174 = .ok (.iload_n 1, 1) := by decide +kernel
theorem dX8_canoe_175 : decode cX8_canoe 175 = .ok (.iaload, 1) := by decide +kernel
theorem dX8_canoe_176 : decode cX8_canoe 176 = .ok (.ireturn, 1) := by decide +kernel
theorem dX8_canoe_177 : decode cX8_canoe 177 = .ok (.iconst (-1), 1) := by decide +kernel
theorem dX8_canoe_178 : decode cX8_canoe 178 = .ok (.ireturn, 1) := by decide +kernel
set_option maxRecDepth 20000 in
theorem ggX8_told_X8_isPost : GoodIn wsX8_told wsX8_isPost := goodIn_r _ [7, 8, 9, 10, 6, 11, 22, 23, 24, 25, 26, 27, 28, 29, 30, 31, 32, 33, 34, 35, 36, 37, 38, 39, 40, 41, 42, 43, 44, 45, 46, 47, 48, 49, 50, 51, 52, 53, 54, 55, 56, 57, 58] (by decide +kernel) (by decide +kernel)
set_option maxRecDepth 20000 in
theorem gX8_told_X8_isPost : GoodIn wsX8_told (wsV RX8 119 RX8 yX8_isPost wsX8_isPost) := goodIn_app (goodIn_of _ (by decide +kernel)) ggX8_told_X8_isPost
set_option maxRecDepth 20000 in
theorem ggX8_told_X8_in : GoodIn wsX8_told wsX8_in := goodIn_r _ [11] (by decide +kernel) (by decide +kernel)
set_option maxRecDepth 20000 in
theorem gX8_told_X8_in : GoodIn wsX8_told (va_wsS RX8 108 yX8_in wsX8_in) := goodIn_app (goodIn_of _ (by decide +kernel)) ggX8_told_X8_in
set_option maxRecDepth 20000 in
theorem ggX8_told_X8_stored : GoodIn wsX8_told wsX8_stored := goodIn_r _ [15, 16, 22, 23, 24, 25, 26, 27, 28, 29, 30, 31, 32, 33, 34, 35, 36, 37, 38, 39, 40, 41, 42, 43, 44, 45, 46, 47, 48, 49, 50, 51, 52, 53, 54, 55, 56, 57, 58] (by decide +kernel) (by decide +kernel)
set_option maxRecDepth 20000 in
theorem gX8_told_X8_stored : GoodIn wsX8_told (wsV RX8 130 RX8 yX8_stored wsX8_stored) := goodIn_app (goodIn_of _ (by decide +kernel)) ggX8_told_X8_stored
set_option maxRecDepth 20000 in
theorem ggX8_told_X8_owes : GoodIn wsX8_told wsX8_owes := goodIn_r _ [20, 21, 3, 4, 5, 6, 7, 8, 9, 10, 11, 22, 23, 24, 25, 26, 27, 28, 29, 30, 31, 32, 33, 34, 35, 36, 37, 38, 39, 40, 41, 42, 43, 44, 45, 46, 47, 48, 49, 50, 51, 52, 53, 54, 55, 56, 57, 58] (by decide +kernel) (by decide +kernel)
set_option maxRecDepth 20000 in
theorem gX8_told_X8_owes : GoodIn wsX8_told (wsV RX8 178 RX8 yX8_owes wsX8_owes) := goodIn_app (goodIn_of _ (by decide +kernel)) ggX8_told_X8_owes
theorem dX8_told_0 : decode cX8_told 0 = .ok (.aload_n 0, 1) := by decide +kernel
theorem dX8_told_1 : decode cX8_told 1 = .ok (.iload_n 1, 1) := by decide +kernel
theorem dX8_told_2 : decode cX8_told 2 = .ok (.invokevirtual 119, 3) := by decide +kernel
theorem dX8_told_5 : decode cX8_told 5 = .ok (.ifCond .ne 5, 3) := by decide +kernel
theorem dX8_told_8 : decode cX8_told 8 = .ok (.iconst (-1), 1) := by decide +kernel
theorem dX8_told_9 : decode cX8_told 9 = .ok (.ireturn, 1) := by decide +kernel
theorem dX8_told_10 : decode cX8_told 10 = .ok (.iload_n 2, 1) := by decide +kernel
theorem dX8_told_11 : decode cX8_told 11 = .ok (.iconst 0, 1) := by decide +kernel
theorem dX8_told_12 : decode cX8_told 12 = .ok (.iconst 5, 1) := by decide +kernel
theorem dX8_told_13 : decode cX8_told 13 = .ok (.invokestatic 108, 3) := by decide +kernel
theorem dX8_told_16 : decode cX8_told 16 = .ok (.ifCond .eq 10, 3) := by decide +kernel
theorem dX8_told_19 : decode cX8_told 19 = .ok (.aload_n 0, 1) := by decide +kernel
theorem dX8_told_20 : decode cX8_told 20 = .ok (.iload_n 1, 1) := by decide +kernel
theorem dX8_told_21 : decode cX8_told 21 = .ok (.iload_n 2, 1) := by decide +kernel
theorem dX8_told_22 : decode cX8_told 22 = .ok (.invokevirtual 130, 3) := by decide +kernel
theorem dX8_told_25 : decode cX8_told 25 = .ok (.ireturn, 1) := by decide +kernel
theorem dX8_told_26 : decode cX8_told 26 = .ok (.iconst 0, 1) := by decide +kernel
theorem dX8_told_27 : decode cX8_told 27 = .ok (.istore_n 3, 1) := by decide +kernel
theorem dX8_told_28 : decode cX8_told 28 = .ok (.iload_n 2, 1) := by decide +kernel
theorem dX8_told_29 : decode cX8_told 29 = .ok (.bipush 6, 2) := by decide +kernel
theorem dX8_told_31 : decode cX8_told 31 = .ok (.if_icmp .ne 42, 3) := by decide +kernel
theorem dX8_told_34 : decode cX8_told 34 = .ok (.iconst 0, 1) := by decide +kernel
theorem dX8_told_35 : decode cX8_told 35 = .ok (.istore 4, 2) := by decide +kernel
theorem dX8_told_37 : decode cX8_told 37 = .ok (.iload 4, 2) := by decide +kernel
theorem dX8_told_39 : decode cX8_told 39 = .ok (.aload_n 0, 1) := by decide +kernel
theorem dX8_told_40 : decode cX8_told 40 = .ok (.getfield 144, 3) := by decide +kernel
theorem dX8_told_43 : decode cX8_told 43 = .ok (.if_icmp .ge 28, 3) := by decide +kernel
theorem dX8_told_46 : decode cX8_told 46 = .ok (.iload_n 3, 1) := by decide +kernel
theorem dX8_told_47 : decode cX8_told 47 = .ok (.aload_n 0, 1) := by decide +kernel
theorem dX8_told_48 : decode cX8_told 48 = .ok (.getfield 80, 3) := by decide +kernel
theorem dX8_told_51 : decode cX8_told 51 = .ok (.iload 4, 2) := by decide +kernel
theorem dX8_told_53 : decode cX8_told 53 = .ok (.iaload, 1) := by decide +kernel
theorem dX8_told_54 : decode cX8_told 54 = .ok (.iload_n 1, 1) := by decide +kernel
theorem dX8_told_55 : decode cX8_told 55 = .ok (.if_icmp .ne 7, 3) := by decide +kernel
theorem dX8_told_58 : decode cX8_told 58 = .ok (.iconst 1, 1) := by decide +kernel
theorem dX8_told_59 : decode cX8_told 59 = .ok (.goto 4, 3) := by decide +kernel
theorem dX8_told_62 : decode cX8_told 62 = .ok (.iconst 0, 1) := by decide +kernel
theorem dX8_told_63 : decode cX8_told 63 = .ok (.iadd, 1) := by decide +kernel
theorem dX8_told_64 : decode cX8_told 64 = .ok (.istore_n 3, 1) := by decide +kernel
theorem dX8_told_65 : decode cX8_told 65 = .ok (.iinc 4 1, 3) := by decide +kernel
theorem dX8_told_68 : decode cX8_told 68 = .ok (.goto (-31), 3) := by decide +kernel
theorem dX8_told_71 : decode cX8_told 71 = .ok (.iload_n 3, 1) := by decide +kernel
theorem dX8_told_72 : decode cX8_told 72 = .ok (.ireturn, 1) := by decide +kernel
theorem dX8_told_73 : decode cX8_told 73 = .ok (.iconst 0, 1) := by decide +kernel
theorem dX8_told_74 : decode cX8_told 74 = .ok (.istore 4, 2) := by decide +kernel
theorem dX8_told_76 : decode cX8_told 76 = .ok (.iload 4, 2) := by decide +kernel
theorem dX8_told_78 : decode cX8_told 78 = .ok (.bipush 12, 2) := by decide +kernel
theorem dX8_told_80 : decode cX8_told 80 = .ok (.if_icmp .ge 19, 3) := by decide +kernel
theorem dX8_told_83 : decode cX8_told 83 = .ok (.iload_n 3, 1) := by decide +kernel
theorem dX8_told_84 : decode cX8_told 84 = .ok (.aload_n 0, 1) := by decide +kernel
theorem dX8_told_85 : decode cX8_told 85 = .ok (.iload_n 1, 1) := by decide +kernel
theorem dX8_told_86 : decode cX8_told 86 = .ok (.iload 4, 2) := by decide +kernel
theorem dX8_told_88 : decode cX8_told 88 = .ok (.invokevirtual 178, 3) := by decide +kernel
theorem dX8_told_91 : decode cX8_told 91 = .ok (.iadd, 1) := by decide +kernel
theorem dX8_told_92 : decode cX8_told 92 = .ok (.istore_n 3, 1) := by decide +kernel
theorem dX8_told_93 : decode cX8_told 93 = .ok (.iinc 4 1, 3) := by decide +kernel
theorem dX8_told_96 : decode cX8_told 96 = .ok (.goto (-20), 3) := by decide +kernel
theorem dX8_told_99 : decode cX8_told 99 = .ok (.iload_n 2, 1) := by decide +kernel
theorem dX8_told_100 : decode cX8_told 100 = .ok (.bipush 7, 2) := by decide +kernel
theorem dX8_told_102 : decode cX8_told 102 = .ok (.if_icmp .ne 7, 3) := by decide +kernel
theorem dX8_told_105 : decode cX8_told 105 = .ok (.iload_n 3, 1) := by decide +kernel
theorem dX8_told_106 : decode cX8_told 106 = .ok (.goto 4, 3) := by decide +kernel
theorem dX8_told_109 : decode cX8_told 109 = .ok (.iconst (-1), 1) := by decide +kernel
theorem dX8_told_110 : decode cX8_told 110 = .ok (.ireturn, 1) := by decide +kernel
set_option maxRecDepth 20000 in
theorem ggX8_count_X8_in : GoodIn wsX8_count wsX8_in := goodIn_r _ [11] (by decide +kernel) (by decide +kernel)
set_option maxRecDepth 20000 in
theorem gX8_count_X8_in : GoodIn wsX8_count (va_wsS RX8 108 yX8_in wsX8_in) := goodIn_app (goodIn_of _ (by decide +kernel)) ggX8_count_X8_in
set_option maxRecDepth 20000 in
theorem ggX8_count_X8_isWare : GoodIn wsX8_count wsX8_isWare := goodIn_r _ [14, 8, 9, 10, 11] (by decide +kernel) (by decide +kernel)
set_option maxRecDepth 20000 in
theorem gX8_count_X8_isWare : GoodIn wsX8_count (va_wsS RX8 127 yX8_isWare wsX8_isWare) := goodIn_app (goodIn_of _ (by decide +kernel)) ggX8_count_X8_isWare
theorem dX8_count_0 : decode cX8_count 0 = .ok (.iload_n 2, 1) := by decide +kernel
theorem dX8_count_1 : decode cX8_count 1 = .ok (.iconst 0, 1) := by decide +kernel
theorem dX8_count_2 : decode cX8_count 2 = .ok (.iconst 5, 1) := by decide +kernel
theorem dX8_count_3 : decode cX8_count 3 = .ok (.invokestatic 108, 3) := by decide +kernel
theorem dX8_count_6 : decode cX8_count 6 = .ok (.ifCond .ne 5, 3) := by decide +kernel
theorem dX8_count_9 : decode cX8_count 9 = .ok (.iconst (-1), 1) := by decide +kernel
theorem dX8_count_10 : decode cX8_count 10 = .ok (.ireturn, 1) := by decide +kernel
theorem dX8_count_11 : decode cX8_count 11 = .ok (.iload_n 1, 1) := by decide +kernel
theorem dX8_count_12 : decode cX8_count 12 = .ok (.invokestatic 127, 3) := by decide +kernel
theorem dX8_count_15 : decode cX8_count 15 = .ok (.ifCond .eq 15, 3) := by decide +kernel
theorem dX8_count_18 : decode cX8_count 18 = .ok (.aload_n 0, 1) := by decide +kernel
theorem dX8_count_19 : decode cX8_count 19 = .ok (.getfield 98, 3) := by decide +kernel
theorem dX8_count_22 : decode cX8_count 22 = .ok (.bipush 6, 2) := by decide +kernel
theorem dX8_count_24 : decode cX8_count 24 = .ok (.iload_n 2, 1) := by decide +kernel
theorem dX8_count_25 : decode cX8_count 25 = .ok (.imul, 1) := by decide +kernel
theorem dX8_count_26 : decode cX8_count 26 = .ok (.iload_n 1, 1) := by decide +kernel
theorem dX8_count_27 : decode cX8_count 27 = .ok (.iadd, 1) := by decide +kernel
theorem dX8_count_28 : decode cX8_count 28 = .ok (.iaload, 1) := by decide +kernel
theorem dX8_count_29 : decode cX8_count 29 = .ok (.ireturn, 1) := by decide +kernel
theorem dX8_count_30 : decode cX8_count 30 = .ok (.iload_n 1, 1) := by decide +kernel
theorem dX8_count_31 : decode cX8_count 31 = .ok (.iconst (-1), 1) := by decide +kernel
theorem dX8_count_32 : decode cX8_count 32 = .ok (.if_icmp .eq 5, 3) := by decide +kernel
theorem dX8_count_35 : decode cX8_count 35 = .ok (.iconst (-1), 1) := by decide +kernel
theorem dX8_count_36 : decode cX8_count 36 = .ok (.ireturn, 1) := by decide +kernel
theorem dX8_count_37 : decode cX8_count 37 = .ok (.iload_n 2, 1) := by decide +kernel
theorem dX8_count_38 : decode cX8_count 38 = .ok (.tableswitch 59 0 4 #[34, 39, 44, 49, 54], 34) := by decide +kernel
theorem dX8_count_72 : decode cX8_count 72 = .ok (.aload_n 0, 1) := by decide +kernel
theorem dX8_count_73 : decode cX8_count 73 = .ok (.getfield 137, 3) := by decide +kernel
theorem dX8_count_76 : decode cX8_count 76 = .ok (.ireturn, 1) := by decide +kernel
theorem dX8_count_77 : decode cX8_count 77 = .ok (.aload_n 0, 1) := by decide +kernel
theorem dX8_count_78 : decode cX8_count 78 = .ok (.getfield 104, 3) := by decide +kernel
theorem dX8_count_81 : decode cX8_count 81 = .ok (.ireturn, 1) := by decide +kernel
theorem dX8_count_82 : decode cX8_count 82 = .ok (.aload_n 0, 1) := by decide +kernel
theorem dX8_count_83 : decode cX8_count 83 = .ok (.getfield 115, 3) := by decide +kernel
theorem dX8_count_86 : decode cX8_count 86 = .ok (.ireturn, 1) := by decide +kernel
theorem dX8_count_87 : decode cX8_count 87 = .ok (.aload_n 0, 1) := by decide +kernel
theorem dX8_count_88 : decode cX8_count 88 = .ok (.getfield 112, 3) := by decide +kernel
theorem dX8_count_91 : decode cX8_count 91 = .ok (.ireturn, 1) := by decide +kernel
theorem dX8_count_92 : decode cX8_count 92 = .ok (.aload_n 0, 1) := by decide +kernel
theorem dX8_count_93 : decode cX8_count 93 = .ok (.getfield 144, 3) := by decide +kernel
theorem dX8_count_96 : decode cX8_count 96 = .ok (.ireturn, 1) := by decide +kernel
theorem dX8_count_97 : decode cX8_count 97 = .ok (.aload_n 0, 1) := by decide +kernel
theorem dX8_count_98 : decode cX8_count 98 = .ok (.getfield 156, 3) := by decide +kernel
theorem dX8_count_101 : decode cX8_count 101 = .ok (.ireturn, 1) := by decide +kernel
theorem dJ9_min_7cf53_0 : decode cJ9_min_7cf53 0 = .ok (.iload_n 0, 1) := by decide +kernel
theorem dJ9_min_7cf53_1 : decode cJ9_min_7cf53 1 = .ok (.iload_n 1, 1) := by decide +kernel
theorem dJ9_min_7cf53_2 : decode cJ9_min_7cf53 2 = .ok (.if_icmp .gt 7, 3) := by decide +kernel
theorem dJ9_min_7cf53_5 : decode cJ9_min_7cf53 5 = .ok (.iload_n 0, 1) := by decide +kernel
theorem dJ9_min_7cf53_6 : decode cJ9_min_7cf53 6 = .ok (.goto 4, 3) := by decide +kernel
theorem dJ9_min_7cf53_9 : decode cJ9_min_7cf53 9 = .ok (.iload_n 1, 1) := by decide +kernel
theorem dJ9_min_7cf53_10 : decode cJ9_min_7cf53 10 = .ok (.ireturn, 1) := by decide +kernel
theorem dJ7_fill_53178_0 : decode cJ7_fill_53178 0 = .ok (.iconst 0, 1) := by decide +kernel
theorem dJ7_fill_53178_1 : decode cJ7_fill_53178 1 = .ok (.istore_n 2, 1) := by decide +kernel
theorem dJ7_fill_53178_2 : decode cJ7_fill_53178 2 = .ok (.aload_n 0, 1) := by decide +kernel
theorem dJ7_fill_53178_3 : decode cJ7_fill_53178 3 = .ok (.arraylength, 1) := by decide +kernel
theorem dJ7_fill_53178_4 : decode cJ7_fill_53178 4 = .ok (.istore_n 3, 1) := by decide +kernel
theorem dJ7_fill_53178_5 : decode cJ7_fill_53178 5 = .ok (.iload_n 2, 1) := by decide +kernel
theorem dJ7_fill_53178_6 : decode cJ7_fill_53178 6 = .ok (.iload_n 3, 1) := by decide +kernel
theorem dJ7_fill_53178_7 : decode cJ7_fill_53178 7 = .ok (.if_icmp .ge 13, 3) := by decide +kernel
theorem dJ7_fill_53178_10 : decode cJ7_fill_53178 10 = .ok (.aload_n 0, 1) := by decide +kernel
theorem dJ7_fill_53178_11 : decode cJ7_fill_53178 11 = .ok (.iload_n 2, 1) := by decide +kernel
theorem dJ7_fill_53178_12 : decode cJ7_fill_53178 12 = .ok (.iload_n 1, 1) := by decide +kernel
theorem dJ7_fill_53178_13 : decode cJ7_fill_53178 13 = .ok (.iastore, 1) := by decide +kernel
theorem dJ7_fill_53178_14 : decode cJ7_fill_53178 14 = .ok (.iinc 2 1, 3) := by decide +kernel
theorem dJ7_fill_53178_17 : decode cJ7_fill_53178 17 = .ok (.goto (-12), 3) := by decide +kernel
theorem dJ7_fill_53178_20 : decode cJ7_fill_53178 20 = .ok (.return_, 1) := by decide +kernel
set_option maxRecDepth 20000 in
theorem ggL_law_X7_init : GoodIn wsL_law wsX7_init := goodIn_r _ [8, 9, 10, 11, 12, 13, 14, 15, 16, 17, 18, 19, 20, 21, 22, 23, 24, 25, 26, 27, 28, 29, 585, 586, 587, 588, 589, 590, 591, 592, 593, 594, 595, 596, 597, 598] (by decide +kernel) (by decide +kernel)
set_option maxRecDepth 20000 in
theorem gL_law_X7_init : GoodIn wsL_law (wsX7_init) := ggL_law_X7_init
set_option maxRecDepth 20000 in
theorem ggL_law_X8_init : GoodIn wsL_law wsX8_init := goodIn_r _ [32, 33, 10, 11, 21, 34, 35, 36, 37, 38, 39, 40, 41, 42, 43, 44, 45, 46, 47, 48, 49, 50, 51, 52, 53, 54, 55, 56, 57, 58, 59, 60, 61, 62, 63, 64, 65, 599, 600, 601, 602, 603, 604, 605, 606, 607, 608, 609, 610, 611, 612, 613, 614, 615, 616, 617, 618, 619, 620, 621, 622, 623, 624, 625, 626, 627, 628, 629, 630, 631, 632, 633, 634, 635] (by decide +kernel) (by decide +kernel)
set_option maxRecDepth 20000 in
theorem gL_law_X8_init : GoodIn wsL_law (wsX8_init) := ggL_law_X8_init
set_option maxRecDepth 20000 in
theorem ggL_law_X7_post : GoodIn wsL_law wsX7_post := goodIn_r _ [69, 70, 13, 12, 71, 72, 73, 74, 75, 76, 10, 11, 21, 77, 78, 79, 80, 81, 82, 27, 28, 29, 585, 586, 587, 588, 589, 590, 591, 592, 593, 594, 595, 596, 597, 598, 636, 637, 638, 639] (by decide +kernel) (by decide +kernel)
set_option maxRecDepth 20000 in
theorem gL_law_X7_post : GoodIn wsL_law (wsV RL 13 RX7 yX7_post wsX7_post) := goodIn_app (goodIn_of _ (by decide +kernel)) ggL_law_X7_post
set_option maxRecDepth 20000 in
theorem ggL_law_X8_post : GoodIn wsL_law wsX8_post := goodIn_r _ [86, 87, 599, 600, 601, 602, 603, 604, 605, 606, 607, 608, 609, 610, 611, 612, 613, 614, 615, 616, 617, 618, 619, 620, 621, 622, 623, 624, 625, 626, 627, 628, 629, 630, 631, 632, 633, 634, 635] (by decide +kernel) (by decide +kernel)
set_option maxRecDepth 20000 in
theorem gL_law_X8_post : GoodIn wsL_law (wsV RL 17 RX8 yX8_post wsX8_post) := goodIn_app (goodIn_of _ (by decide +kernel)) ggL_law_X8_post
set_option maxRecDepth 20000 in
theorem ggL_law_X7_way : GoodIn wsL_law wsX7_way := goodIn_r _ [91, 22, 92, 93, 15, 14, 94, 95, 96, 97, 98, 2, 99, 100, 101, 102, 103, 13, 104, 105, 106, 107, 108, 109, 110, 10, 11, 111, 112, 113, 114, 115, 116, 117, 118, 119, 120, 121, 122, 123, 124, 585, 586, 587, 588, 589, 590, 591, 592, 593, 594, 595, 596, 597, 598, 640, 641, 642, 643, 644, 645] (by decide +kernel) (by decide +kernel)
set_option maxRecDepth 20000 in
theorem gL_law_X7_way : GoodIn wsL_law (wsV RL 18 RX7 yX7_way wsX7_way) := goodIn_app (goodIn_of _ (by decide +kernel)) ggL_law_X7_way
set_option maxRecDepth 20000 in
theorem ggL_law_X8_way : GoodIn wsL_law wsX8_way := goodIn_r _ [128, 129, 130, 37, 38, 39, 40, 41, 42, 131, 132, 5, 133, 134, 135, 136, 137, 87, 138, 139, 140, 141, 599, 600, 601, 602, 603, 604, 605, 606, 607, 608, 609, 610, 611, 612, 613, 614, 615, 616, 617, 618, 619, 620, 621, 622, 623, 624, 625, 626, 627, 628, 629, 630, 631, 632, 633, 634, 635] (by decide +kernel) (by decide +kernel)
set_option maxRecDepth 20000 in
theorem gL_law_X8_way : GoodIn wsL_law (wsV RL 22 RX8 yX8_way wsX8_way) := goodIn_app (goodIn_of _ (by decide +kernel)) ggL_law_X8_way
set_option maxRecDepth 20000 in
theorem ggL_law_X7_store : GoodIn wsL_law wsX7_store := goodIn_r _ [145, 146, 147, 24, 100, 101, 102, 2, 103, 13, 148, 149, 150, 104, 105, 106, 636, 637, 638, 639, 585, 586, 587, 588, 589, 590, 591, 592, 593, 594, 595, 596, 597, 598] (by decide +kernel) (by decide +kernel)
set_option maxRecDepth 20000 in
theorem gL_law_X7_store : GoodIn wsL_law (wsV RL 23 RX7 yX7_store wsX7_store) := goodIn_app (goodIn_of _ (by decide +kernel)) ggL_law_X7_store
set_option maxRecDepth 20000 in
theorem ggL_law_X8_store : GoodIn wsL_law wsX8_store := goodIn_r _ [154, 155, 34, 134, 135, 136, 5, 137, 87, 131, 132, 133, 156, 157, 158, 159, 160, 161, 162, 163, 164, 165, 166, 64, 599, 600, 601, 602, 603, 604, 605, 606, 607, 608, 609, 610, 611, 612, 613, 614, 615, 616, 617, 618, 619, 620, 621, 622, 623, 624, 625, 626, 627, 628, 629, 630, 631, 632, 633, 634, 635] (by decide +kernel) (by decide +kernel)
set_option maxRecDepth 20000 in
theorem gL_law_X8_store : GoodIn wsL_law (wsV RL 27 RX8 yX8_store wsX8_store) := goodIn_app (goodIn_of _ (by decide +kernel)) ggL_law_X8_store
set_option maxRecDepth 20000 in
theorem ggL_law_X7_load : GoodIn wsL_law wsX7_load := goodIn_r _ [170, 25, 148, 149, 2, 150, 104, 105, 106, 585, 586, 587, 588, 589, 590, 591, 592, 593, 594, 595, 596, 597, 598] (by decide +kernel) (by decide +kernel)
set_option maxRecDepth 20000 in
theorem gL_law_X7_load : GoodIn wsL_law (wsV RL 28 RX7 yX7_load wsX7_load) := goodIn_app (goodIn_of _ (by decide +kernel)) ggL_law_X7_load
set_option maxRecDepth 20000 in
theorem ggL_law_X8_load : GoodIn wsL_law wsX8_load := goodIn_r _ [174, 43, 156, 157, 5, 158, 131, 132, 133, 599, 600, 601, 602, 603, 604, 605, 606, 607, 608, 609, 610, 611, 612, 613, 614, 615, 616, 617, 618, 619, 620, 621, 622, 623, 624, 625, 626, 627, 628, 629, 630, 631, 632, 633, 634, 635] (by decide +kernel) (by decide +kernel)
set_option maxRecDepth 20000 in
theorem gL_law_X8_load : GoodIn wsL_law (wsV RL 32 RX8 yX8_load wsX8_load) := goodIn_app (goodIn_of _ (by decide +kernel)) ggL_law_X8_load
set_option maxRecDepth 20000 in
theorem ggL_law_X7_send : GoodIn wsL_law wsX7_send := goodIn_r _ [178, 179, 180, 16, 181, 182, 183, 25, 184, 185, 186, 187, 188, 189, 17, 146, 190, 100, 101, 102, 2, 103, 13, 191, 192, 193, 194, 15, 195, 196, 197, 95, 198, 111, 112, 199, 200, 201, 202, 114, 115, 105, 106, 203, 204, 205, 206, 207, 208, 209, 210, 211, 212, 213, 214, 215, 10, 11, 216, 217, 218, 219, 220, 221, 222, 223, 224, 225, 226, 227, 228, 229, 230, 231, 232, 233, 234, 235, 236, 237, 238, 239, 240, 19, 241, 242, 243, 244, 22, 96, 97, 98, 99, 585, 586, 587, 588, 589, 590, 591, 592, 593, 594, 595, 596, 597, 598, 646, 647, 648, 649, 650, 651, 652, 653, 654, 655, 656, 640, 641, 642, 643, 644, 645, 636, 637, 638, 639, 657, 658, 659, 660, 661, 662, 663, 664, 665, 666, 667, 668, 669, 670, 671, 672, 673, 674] (by decide +kernel) (by decide +kernel)
set_option maxRecDepth 20000 in
theorem gL_law_X7_send : GoodIn wsL_law (wsV RL 33 RX7 yX7_send wsX7_send) := goodIn_app (goodIn_of _ (by decide +kernel)) ggL_law_X7_send
set_option maxRecDepth 20000 in
theorem ggL_law_X8_send : GoodIn wsL_law wsX8_send := goodIn_r _ [248, 130, 37, 38, 43, 249, 42, 250, 44, 45, 46, 47, 39, 49, 50, 34, 52, 53, 251, 58, 57, 51, 134, 135, 136, 5, 137, 87, 131, 132, 133, 159, 160, 161, 162, 252, 253, 254, 255, 40, 41, 256, 257, 258, 259, 65, 138, 139, 140, 141, 599, 600, 601, 602, 603, 604, 605, 606, 607, 608, 609, 610, 611, 612, 613, 614, 615, 616, 617, 618, 619, 620, 621, 622, 623, 624, 625, 626, 627, 628, 629, 630, 631, 632, 633, 634, 635] (by decide +kernel) (by decide +kernel)
set_option maxRecDepth 20000 in
theorem gL_law_X8_send : GoodIn wsL_law (wsV RL 37 RX8 yX8_send wsX8_send) := goodIn_app (goodIn_of _ (by decide +kernel)) ggL_law_X8_send
set_option maxRecDepth 20000 in
theorem ggL_law_X7_lose : GoodIn wsL_law wsX7_lose := goodIn_r _ [263, 264, 265, 266, 24, 267, 268, 269, 2, 270, 17, 271, 272, 273, 274, 231, 236, 275, 276, 237, 238, 239, 240, 19, 646, 647, 648, 649, 650, 651, 652, 653, 654, 655, 656, 585, 586, 587, 588, 589, 590, 591, 592, 593, 594, 595, 596, 597, 598, 657, 658, 659, 660, 661, 662, 663, 664, 665, 666, 667, 668, 669, 670, 671, 672, 673, 674] (by decide +kernel) (by decide +kernel)
set_option maxRecDepth 20000 in
theorem gL_law_X7_lose : GoodIn wsL_law (wsV RL 38 RX7 yX7_lose wsX7_lose) := goodIn_app (goodIn_of _ (by decide +kernel)) ggL_law_X7_lose
set_option maxRecDepth 20000 in
theorem ggL_law_X8_lose : GoodIn wsL_law wsX8_lose := goodIn_r _ [280, 52, 251, 58, 56, 281, 60, 48, 282, 283, 284, 5, 285, 286, 287, 288, 289, 250, 131, 132, 133, 163, 164, 165, 166, 64, 599, 600, 601, 602, 603, 604, 605, 606, 607, 608, 609, 610, 611, 612, 613, 614, 615, 616, 617, 618, 619, 620, 621, 622, 623, 624, 625, 626, 627, 628, 629, 630, 631, 632, 633, 634, 635] (by decide +kernel) (by decide +kernel)
set_option maxRecDepth 20000 in
theorem gL_law_X8_lose : GoodIn wsL_law (wsV RL 42 RX8 yX8_lose wsX8_lose) := goodIn_app (goodIn_of _ (by decide +kernel)) ggL_law_X8_lose
set_option maxRecDepth 20000 in
theorem ggL_law_X7_spoil : GoodIn wsL_law wsX7_spoil := goodIn_r _ [293, 264, 266, 294, 24, 267, 268, 269, 2, 270, 17, 148, 149, 150, 104, 105, 106, 646, 647, 648, 649, 650, 651, 652, 653, 654, 655, 656, 585, 586, 587, 588, 589, 590, 591, 592, 593, 594, 595, 596, 597, 598] (by decide +kernel) (by decide +kernel)
set_option maxRecDepth 20000 in
theorem gL_law_X7_spoil : GoodIn wsL_law (wsV RL 43 RX7 yX7_spoil wsX7_spoil) := goodIn_app (goodIn_of _ (by decide +kernel)) ggL_law_X7_spoil
set_option maxRecDepth 20000 in
theorem ggL_law_X8_spoil : GoodIn wsL_law wsX8_spoil := goodIn_r _ [298, 52, 282, 283, 284, 5, 285, 48, 286, 287, 288, 289, 250, 131, 132, 133, 156, 157, 158, 163, 164, 165, 166, 64, 599, 600, 601, 602, 603, 604, 605, 606, 607, 608, 609, 610, 611, 612, 613, 614, 615, 616, 617, 618, 619, 620, 621, 622, 623, 624, 625, 626, 627, 628, 629, 630, 631, 632, 633, 634, 635] (by decide +kernel) (by decide +kernel)
set_option maxRecDepth 20000 in
theorem gL_law_X8_spoil : GoodIn wsL_law (wsV RL 47 RX8 yX8_spoil wsX8_spoil) := goodIn_app (goodIn_of _ (by decide +kernel)) ggL_law_X8_spoil
set_option maxRecDepth 20000 in
theorem ggL_law_X7_go : GoodIn wsL_law wsX7_go := goodIn_r _ [302, 179, 180, 104, 105, 2, 106, 303, 304, 305, 306, 264, 307, 235, 265, 267, 268, 269, 270, 17, 191, 192, 193, 194, 15, 100, 101, 102, 103, 13, 199, 200, 201, 95, 202, 114, 115, 308, 309, 310, 311, 312, 146, 266, 313, 314, 315, 316, 231, 236, 234, 232, 237, 238, 239, 240, 19, 317, 318, 319, 320, 321, 322, 323, 324, 325, 326, 327, 328, 329, 330, 331, 332, 333, 334, 149, 150, 335, 336, 337, 338, 339, 340, 341, 342, 343, 344, 345, 72, 346, 81, 585, 586, 587, 588, 589, 590, 591, 592, 593, 594, 595, 596, 597, 598, 646, 647, 648, 649, 650, 651, 652, 653, 654, 655, 656, 640, 641, 642, 643, 644, 645, 636, 637, 638, 639, 657, 658, 659, 660, 661, 662, 663, 664, 665, 666, 667, 668, 669, 670, 671, 672, 673, 674] (by decide +kernel) (by decide +kernel)
set_option maxRecDepth 20000 in
theorem gL_law_X7_go : GoodIn wsL_law (wsV RL 48 RX7 yX7_go wsX7_go) := goodIn_app (goodIn_of _ (by decide +kernel)) ggL_law_X7_go
set_option maxRecDepth 20000 in
theorem ggL_law_X8_go : GoodIn wsL_law wsX8_go := goodIn_r _ [350, 249, 250, 48, 46, 47, 131, 132, 5, 133, 252, 253, 254, 255, 40, 41, 351, 352, 353, 354, 50, 52, 53, 55, 34, 45, 251, 58, 57, 355, 356, 357, 358, 56, 35, 59, 60, 36, 62, 599, 600, 601, 602, 603, 604, 605, 606, 607, 608, 609, 610, 611, 612, 613, 614, 615, 616, 617, 618, 619, 620, 621, 622, 623, 624, 625, 626, 627, 628, 629, 630, 631, 632, 633, 634, 635] (by decide +kernel) (by decide +kernel)
set_option maxRecDepth 20000 in
theorem gL_law_X8_go : GoodIn wsL_law (wsV RL 51 RX8 yX8_go wsX8_go) := goodIn_app (goodIn_of _ (by decide +kernel)) ggL_law_X8_go
set_option maxRecDepth 20000 in
theorem ggL_law_X7_sell : GoodIn wsL_law wsX7_sell := goodIn_r _ [362, 146, 363, 364, 147, 24, 100, 101, 102, 2, 103, 13, 365, 366, 367, 368, 326, 327, 148, 149, 150, 104, 105, 106, 636, 637, 638, 639, 585, 586, 587, 588, 589, 590, 591, 592, 593, 594, 595, 596, 597, 598] (by decide +kernel) (by decide +kernel)
set_option maxRecDepth 20000 in
theorem gL_law_X7_sell : GoodIn wsL_law (wsV RL 52 RX7 yX7_sell wsX7_sell) := goodIn_app (goodIn_of _ (by decide +kernel)) ggL_law_X7_sell
set_option maxRecDepth 20000 in
theorem ggL_law_X8_sell : GoodIn wsL_law wsX8_sell := goodIn_r _ [372, 36, 35, 155, 34, 373, 374, 375, 5, 376, 134, 135, 136, 137, 87, 131, 132, 133, 156, 157, 158, 159, 160, 161, 162, 163, 164, 165, 166, 64, 599, 600, 601, 602, 603, 604, 605, 606, 607, 608, 609, 610, 611, 612, 613, 614, 615, 616, 617, 618, 619, 620, 621, 622, 623, 624, 625, 626, 627, 628, 629, 630, 631, 632, 633, 634, 635] (by decide +kernel) (by decide +kernel)
set_option maxRecDepth 20000 in
theorem gL_law_X8_sell : GoodIn wsL_law (wsV RL 55 RX8 yX8_sell wsX8_sell) := goodIn_app (goodIn_of _ (by decide +kernel)) ggL_law_X8_sell
set_option maxRecDepth 20000 in
theorem ggL_law_X7_buy : GoodIn wsL_law wsX7_buy := goodIn_r _ [380, 146, 147, 363, 364, 381, 24, 100, 101, 102, 2, 103, 13, 365, 366, 367, 368, 326, 327, 148, 149, 150, 104, 105, 106, 636, 637, 638, 639, 585, 586, 587, 588, 589, 590, 591, 592, 593, 594, 595, 596, 597, 598] (by decide +kernel) (by decide +kernel)
set_option maxRecDepth 20000 in
theorem gL_law_X7_buy : GoodIn wsL_law (wsV RL 56 RX7 yX7_buy wsX7_buy) := goodIn_app (goodIn_of _ (by decide +kernel)) ggL_law_X7_buy
set_option maxRecDepth 20000 in
theorem ggL_law_X8_buy : GoodIn wsL_law wsX8_buy := goodIn_r _ [385, 155, 36, 35, 386, 34, 373, 374, 375, 5, 376, 134, 135, 136, 137, 87, 131, 132, 133, 156, 157, 158, 159, 160, 161, 162, 163, 164, 165, 166, 64, 599, 600, 601, 602, 603, 604, 605, 606, 607, 608, 609, 610, 611, 612, 613, 614, 615, 616, 617, 618, 619, 620, 621, 622, 623, 624, 625, 626, 627, 628, 629, 630, 631, 632, 633, 634, 635] (by decide +kernel) (by decide +kernel)
set_option maxRecDepth 20000 in
theorem gL_law_X8_buy : GoodIn wsL_law (wsV RL 59 RX8 yX8_buy wsX8_buy) := goodIn_app (goodIn_of _ (by decide +kernel)) ggL_law_X8_buy
set_option maxRecDepth 20000 in
theorem ggL_law_X7_give : GoodIn wsL_law wsX7_give := goodIn_r _ [390, 146, 24, 100, 101, 102, 2, 103, 13, 365, 366, 367, 368, 326, 327, 148, 149, 150, 104, 105, 106, 636, 637, 638, 639, 585, 586, 587, 588, 589, 590, 591, 592, 593, 594, 595, 596, 597, 598] (by decide +kernel) (by decide +kernel)
set_option maxRecDepth 20000 in
theorem gL_law_X7_give : GoodIn wsL_law (wsV RL 60 RX7 yX7_give wsX7_give) := goodIn_app (goodIn_of _ (by decide +kernel)) ggL_law_X7_give
set_option maxRecDepth 20000 in
theorem ggL_law_X8_give : GoodIn wsL_law wsX8_give := goodIn_r _ [394, 34, 373, 374, 375, 5, 376, 134, 135, 136, 137, 87, 131, 132, 133, 156, 157, 158, 159, 160, 161, 162, 163, 164, 165, 166, 64, 599, 600, 601, 602, 603, 604, 605, 606, 607, 608, 609, 610, 611, 612, 613, 614, 615, 616, 617, 618, 619, 620, 621, 622, 623, 624, 625, 626, 627, 628, 629, 630, 631, 632, 633, 634, 635] (by decide +kernel) (by decide +kernel)
set_option maxRecDepth 20000 in
theorem gL_law_X8_give : GoodIn wsL_law (wsV RL 63 RX8 yX8_give wsX8_give) := goodIn_app (goodIn_of _ (by decide +kernel)) ggL_law_X8_give
set_option maxRecDepth 20000 in
theorem ggL_law_X7_owes : GoodIn wsL_law wsX7_owes := goodIn_r _ [398, 363, 100, 101, 102, 2, 103, 13, 368, 326, 327, 636, 637, 638, 639, 585, 586, 587, 588, 589, 590, 591, 592, 593, 594, 595, 596, 597, 598] (by decide +kernel) (by decide +kernel)
set_option maxRecDepth 20000 in
theorem gL_law_X7_owes : GoodIn wsL_law (wsV RL 64 RX7 yX7_owes wsX7_owes) := goodIn_app (goodIn_of _ (by decide +kernel)) ggL_law_X7_owes
set_option maxRecDepth 20000 in
theorem ggL_law_X8_owes : GoodIn wsL_law wsX8_owes := goodIn_r _ [402, 36, 134, 135, 136, 5, 137, 87, 131, 132, 133, 599, 600, 601, 602, 603, 604, 605, 606, 607, 608, 609, 610, 611, 612, 613, 614, 615, 616, 617, 618, 619, 620, 621, 622, 623, 624, 625, 626, 627, 628, 629, 630, 631, 632, 633, 634, 635] (by decide +kernel) (by decide +kernel)
set_option maxRecDepth 20000 in
theorem gL_law_X8_owes : GoodIn wsL_law (wsV RL 67 RX8 yX8_owes wsX8_owes) := goodIn_app (goodIn_of _ (by decide +kernel)) ggL_law_X8_owes
set_option maxRecDepth 20000 in
theorem ggL_law_X7_price : GoodIn wsL_law wsX7_price := goodIn_r _ [406, 364, 100, 101, 102, 2, 103, 13, 148, 149, 150, 636, 637, 638, 639, 585, 586, 587, 588, 589, 590, 591, 592, 593, 594, 595, 596, 597, 598] (by decide +kernel) (by decide +kernel)
set_option maxRecDepth 20000 in
theorem gL_law_X7_price : GoodIn wsL_law (wsV RL 68 RX7 yX7_price wsX7_price) := goodIn_app (goodIn_of _ (by decide +kernel)) ggL_law_X7_price
set_option maxRecDepth 20000 in
theorem ggL_law_X8_price : GoodIn wsL_law wsX8_price := goodIn_r _ [410, 35, 134, 135, 136, 5, 137, 87, 131, 132, 133, 156, 157, 158, 599, 600, 601, 602, 603, 604, 605, 606, 607, 608, 609, 610, 611, 612, 613, 614, 615, 616, 617, 618, 619, 620, 621, 622, 623, 624, 625, 626, 627, 628, 629, 630, 631, 632, 633, 634, 635] (by decide +kernel) (by decide +kernel)
set_option maxRecDepth 20000 in
theorem gL_law_X8_price : GoodIn wsL_law (wsV RL 71 RX8 yX8_price wsX8_price) := goodIn_app (goodIn_of _ (by decide +kernel)) ggL_law_X8_price
set_option maxRecDepth 20000 in
theorem ggL_law_X7_order : GoodIn wsL_law wsX7_order := goodIn_r _ [414, 415, 416, 330, 417, 418, 419, 2, 420, 231, 96, 97, 98, 99, 100, 101, 102, 103, 13, 148, 149, 150, 104, 105, 106, 421, 422, 423, 332, 334, 424, 425, 426, 427, 428, 10, 11, 429, 430, 431, 432, 433, 434, 435, 436, 19, 663, 664, 665, 666, 667, 668, 585, 586, 587, 588, 589, 590, 591, 592, 593, 594, 595, 596, 597, 598, 657, 658, 659, 660, 661, 662, 669, 670, 671, 672, 673, 674] (by decide +kernel) (by decide +kernel)
set_option maxRecDepth 20000 in
theorem gL_law_X7_order : GoodIn wsL_law (wsV RL 72 RX7 yX7_order wsX7_order) := goodIn_app (goodIn_of _ (by decide +kernel)) ggL_law_X7_order
set_option maxRecDepth 20000 in
theorem ggL_law_X8_order : GoodIn wsL_law wsX8_order := goodIn_r _ [440, 441, 442, 443, 5, 444, 251, 134, 135, 136, 137, 87, 131, 132, 133, 156, 157, 158, 445, 446, 447, 448, 56, 58, 57, 59, 60, 599, 600, 601, 602, 603, 604, 605, 606, 607, 608, 609, 610, 611, 612, 613, 614, 615, 616, 617, 618, 619, 620, 621, 622, 623, 624, 625, 626, 627, 628, 629, 630, 631, 632, 633, 634, 635] (by decide +kernel) (by decide +kernel)
set_option maxRecDepth 20000 in
theorem gL_law_X8_order : GoodIn wsL_law (wsV RL 75 RX8 yX8_order wsX8_order) := goodIn_app (goodIn_of _ (by decide +kernel)) ggL_law_X8_order
set_option maxRecDepth 20000 in
theorem ggL_law_X7_debt : GoodIn wsL_law wsX7_debt := goodIn_r _ [452, 363, 453, 454, 321, 100, 101, 102, 2, 103, 13, 417, 418, 419, 420, 231, 96, 97, 98, 99, 368, 326, 327, 455, 456, 457, 323, 325, 458, 425, 426, 427, 428, 10, 11, 429, 430, 431, 432, 433, 434, 435, 436, 19, 636, 637, 638, 639, 657, 658, 659, 660, 661, 662, 585, 586, 587, 588, 589, 590, 591, 592, 593, 594, 595, 596, 597, 598, 663, 664, 665, 666, 667, 668, 669, 670, 671, 672, 673, 674] (by decide +kernel) (by decide +kernel)
set_option maxRecDepth 20000 in
theorem gL_law_X7_debt : GoodIn wsL_law (wsV RL 76 RX7 yX7_debt wsX7_debt) := goodIn_app (goodIn_of _ (by decide +kernel)) ggL_law_X7_debt
set_option maxRecDepth 20000 in
theorem ggL_law_X8_debt : GoodIn wsL_law wsX8_debt := goodIn_r _ [462, 36, 441, 442, 443, 5, 444, 251, 134, 135, 136, 137, 87, 131, 132, 133, 463, 400, 401, 402, 445, 446, 447, 448, 56, 58, 57, 59, 60, 599, 600, 601, 602, 603, 604, 605, 606, 607, 608, 609, 610, 611, 612, 613, 614, 615, 616, 617, 618, 619, 620, 621, 622, 623, 624, 625, 626, 627, 628, 629, 630, 631, 632, 633, 634, 635] (by decide +kernel) (by decide +kernel)
set_option maxRecDepth 20000 in
theorem gL_law_X8_debt : GoodIn wsL_law (wsV RL 79 RX8 yX8_debt wsX8_debt) := goodIn_app (goodIn_of _ (by decide +kernel)) ggL_law_X8_debt
set_option maxRecDepth 20000 in
theorem ggL_law_X7_report : GoodIn wsL_law wsX7_report := goodIn_r _ [467, 468, 469, 337, 179, 146, 184, 185, 186, 187, 188, 189, 100, 101, 102, 2, 103, 13, 417, 418, 419, 420, 231, 96, 97, 98, 99, 470, 471, 472, 341, 473, 474, 425, 426, 427, 428, 10, 11, 429, 430, 431, 432, 433, 434, 435, 436, 19, 669, 670, 671, 672, 673, 674, 585, 586, 587, 588, 589, 590, 591, 592, 593, 594, 595, 596, 597, 598, 636, 637, 638, 639, 657, 658, 659, 660, 661, 662, 663, 664, 665, 666, 667, 668] (by decide +kernel) (by decide +kernel)
set_option maxRecDepth 20000 in
theorem gL_law_X7_report : GoodIn wsL_law (wsV RL 80 RX7 yX7_report wsX7_report) := goodIn_app (goodIn_of _ (by decide +kernel)) ggL_law_X7_report
set_option maxRecDepth 20000 in
theorem ggL_law_X8_report : GoodIn wsL_law wsX8_report := goodIn_r _ [478, 249, 61, 441, 442, 443, 5, 444, 251, 134, 135, 136, 137, 87, 131, 132, 133, 445, 446, 447, 448, 56, 58, 57, 59, 60, 159, 160, 161, 162, 34, 599, 600, 601, 602, 603, 604, 605, 606, 607, 608, 609, 610, 611, 612, 613, 614, 615, 616, 617, 618, 619, 620, 621, 622, 623, 624, 625, 626, 627, 628, 629, 630, 631, 632, 633, 634, 635] (by decide +kernel) (by decide +kernel)
set_option maxRecDepth 20000 in
theorem gL_law_X8_report : GoodIn wsL_law (wsV RL 83 RX8 yX8_report wsX8_report) := goodIn_app (goodIn_of _ (by decide +kernel)) ggL_law_X8_report
set_option maxRecDepth 20000 in
theorem ggL_law_X7_known : GoodIn wsL_law wsX7_known := goodIn_r _ [482, 146, 483, 100, 101, 102, 2, 103, 13, 148, 149, 150, 484, 344, 345, 72, 346, 81, 636, 637, 638, 639, 669, 670, 671, 672, 673, 674, 585, 586, 587, 588, 589, 590, 591, 592, 593, 594, 595, 596, 597, 598] (by decide +kernel) (by decide +kernel)
set_option maxRecDepth 20000 in
theorem gL_law_X7_known : GoodIn wsL_law (wsV RL 84 RX7 yX7_known wsX7_known) := goodIn_app (goodIn_of _ (by decide +kernel)) ggL_law_X7_known
set_option maxRecDepth 20000 in
theorem ggL_law_X8_known : GoodIn wsL_law wsX8_known := goodIn_r _ [488, 62, 61, 134, 135, 136, 5, 137, 87, 131, 132, 133, 156, 157, 158, 159, 160, 161, 162, 34, 599, 600, 601, 602, 603, 604, 605, 606, 607, 608, 609, 610, 611, 612, 613, 614, 615, 616, 617, 618, 619, 620, 621, 622, 623, 624, 625, 626, 627, 628, 629, 630, 631, 632, 633, 634, 635] (by decide +kernel) (by decide +kernel)
set_option maxRecDepth 20000 in
theorem gL_law_X8_known : GoodIn wsL_law (wsV RL 87 RX8 yX8_known wsX8_known) := goodIn_app (goodIn_of _ (by decide +kernel)) ggL_law_X8_known
set_option maxRecDepth 20000 in
theorem ggL_law_X7_knownDay : GoodIn wsL_law wsX7_knownDay := goodIn_r _ [492, 179, 493, 100, 101, 102, 2, 103, 13, 484, 344, 345, 72, 346, 81, 585, 586, 587, 588, 589, 590, 591, 592, 593, 594, 595, 596, 597, 598, 669, 670, 671, 672, 673, 674, 636, 637, 638, 639] (by decide +kernel) (by decide +kernel)
set_option maxRecDepth 20000 in
theorem gL_law_X7_knownDay : GoodIn wsL_law (wsV RL 88 RX7 yX7_knownDay wsX7_knownDay) := goodIn_app (goodIn_of _ (by decide +kernel)) ggL_law_X7_knownDay
set_option maxRecDepth 20000 in
theorem ggL_law_X8_knownDay : GoodIn wsL_law wsX8_knownDay := goodIn_r _ [497, 249, 62, 60, 134, 135, 136, 5, 137, 87, 131, 132, 133, 599, 600, 601, 602, 603, 604, 605, 606, 607, 608, 609, 610, 611, 612, 613, 614, 615, 616, 617, 618, 619, 620, 621, 622, 623, 624, 625, 626, 627, 628, 629, 630, 631, 632, 633, 634, 635] (by decide +kernel) (by decide +kernel)
set_option maxRecDepth 20000 in
theorem gL_law_X8_knownDay : GoodIn wsL_law (wsV RL 91 RX8 yX8_knownDay wsX8_knownDay) := goodIn_app (goodIn_of _ (by decide +kernel)) ggL_law_X8_knownDay
set_option maxRecDepth 20000 in
theorem ggL_law_X7_next : GoodIn wsL_law wsX7_next := goodIn_r _ [244, 22, 96, 97, 98, 2, 99, 100, 101, 102, 103, 13, 585, 586, 587, 588, 589, 590, 591, 592, 593, 594, 595, 596, 597, 598] (by decide +kernel) (by decide +kernel)
set_option maxRecDepth 20000 in
theorem gL_law_X7_next : GoodIn wsL_law (wsV RL 92 RX7 yX7_next wsX7_next) := goodIn_app (goodIn_of _ (by decide +kernel)) ggL_law_X7_next
set_option maxRecDepth 20000 in
theorem ggL_law_X8_next : GoodIn wsL_law wsX8_next := goodIn_r _ [259, 65, 130, 37, 38, 87, 134, 135, 136, 5, 137, 131, 132, 133, 138, 139, 140, 141, 599, 600, 601, 602, 603, 604, 605, 606, 607, 608, 609, 610, 611, 612, 613, 614, 615, 616, 617, 618, 619, 620, 621, 622, 623, 624, 625, 626, 627, 628, 629, 630, 631, 632, 633, 634, 635] (by decide +kernel) (by decide +kernel)
set_option maxRecDepth 20000 in
theorem gL_law_X8_next : GoodIn wsL_law (wsV RL 95 RX8 yX8_next wsX8_next) := goodIn_app (goodIn_of _ (by decide +kernel)) ggL_law_X8_next
set_option maxRecDepth 20000 in
theorem ggL_law_X7_want : GoodIn wsL_law wsX7_want := goodIn_r _ [503, 23, 148, 149, 2, 150, 104, 105, 106, 585, 586, 587, 588, 589, 590, 591, 592, 593, 594, 595, 596, 597, 598] (by decide +kernel) (by decide +kernel)
set_option maxRecDepth 20000 in
theorem gL_law_X7_want : GoodIn wsL_law (wsV RL 96 RX7 yX7_want wsX7_want) := goodIn_app (goodIn_of _ (by decide +kernel)) ggL_law_X7_want
set_option maxRecDepth 20000 in
theorem ggL_law_X8_want : GoodIn wsL_law wsX8_want := goodIn_r _ [507, 63, 156, 157, 5, 158, 131, 132, 133, 599, 600, 601, 602, 603, 604, 605, 606, 607, 608, 609, 610, 611, 612, 613, 614, 615, 616, 617, 618, 619, 620, 621, 622, 623, 624, 625, 626, 627, 628, 629, 630, 631, 632, 633, 634, 635] (by decide +kernel) (by decide +kernel)
set_option maxRecDepth 20000 in
theorem gL_law_X8_want : GoodIn wsL_law (wsV RL 99 RX8 yX8_want wsX8_want) := goodIn_app (goodIn_of _ (by decide +kernel)) ggL_law_X8_want
set_option maxRecDepth 20000 in
theorem ggL_law_X7_indent : GoodIn wsL_law wsX7_indent := goodIn_r _ [511, 512, 513, 514, 2, 515, 146, 121, 122, 123, 124, 23, 100, 101, 102, 103, 13, 148, 149, 150, 516, 517, 518, 519, 104, 105, 106, 636, 637, 638, 639, 585, 586, 587, 588, 589, 590, 591, 592, 593, 594, 595, 596, 597, 598] (by decide +kernel) (by decide +kernel)
set_option maxRecDepth 20000 in
theorem gL_law_X7_indent : GoodIn wsL_law (wsV RL 100 RX7 yX7_indent wsX7_indent) := goodIn_app (goodIn_of _ (by decide +kernel)) ggL_law_X7_indent
set_option maxRecDepth 20000 in
theorem ggL_law_X8_indent : GoodIn wsL_law wsX8_indent := goodIn_r _ [523, 524, 525, 526, 5, 527, 63, 134, 135, 136, 137, 87, 131, 132, 133, 156, 157, 158, 159, 160, 161, 162, 34, 599, 600, 601, 602, 603, 604, 605, 606, 607, 608, 609, 610, 611, 612, 613, 614, 615, 616, 617, 618, 619, 620, 621, 622, 623, 624, 625, 626, 627, 628, 629, 630, 631, 632, 633, 634, 635] (by decide +kernel) (by decide +kernel)
set_option maxRecDepth 20000 in
theorem gL_law_X8_indent : GoodIn wsL_law (wsV RL 103 RX8 yX8_indent wsX8_indent) := goodIn_app (goodIn_of _ (by decide +kernel)) ggL_law_X8_indent
set_option maxRecDepth 20000 in
theorem ggL_law_X7_cost : GoodIn wsL_law wsX7_cost := goodIn_r _ [515, 146, 121, 122, 123, 124, 23, 100, 101, 102, 2, 103, 13, 148, 149, 150, 516, 517, 518, 519, 104, 105, 106, 636, 637, 638, 639, 585, 586, 587, 588, 589, 590, 591, 592, 593, 594, 595, 596, 597, 598] (by decide +kernel) (by decide +kernel)
set_option maxRecDepth 20000 in
theorem gL_law_X7_cost : GoodIn wsL_law (wsV RL 104 RX7 yX7_cost wsX7_cost) := goodIn_app (goodIn_of _ (by decide +kernel)) ggL_law_X7_cost
set_option maxRecDepth 20000 in
theorem ggL_law_X8_cost : GoodIn wsL_law wsX8_cost := goodIn_r _ [527, 63, 134, 135, 136, 5, 137, 87, 131, 132, 133, 156, 157, 158, 159, 160, 161, 162, 34, 599, 600, 601, 602, 603, 604, 605, 606, 607, 608, 609, 610, 611, 612, 613, 614, 615, 616, 617, 618, 619, 620, 621, 622, 623, 624, 625, 626, 627, 628, 629, 630, 631, 632, 633, 634, 635] (by decide +kernel) (by decide +kernel)
set_option maxRecDepth 20000 in
theorem gL_law_X8_cost : GoodIn wsL_law (wsV RL 108 RX8 yX8_cost wsX8_cost) := goodIn_app (goodIn_of _ (by decide +kernel)) ggL_law_X8_cost
set_option maxRecDepth 20000 in
theorem ggL_law_X7_quarrel : GoodIn wsL_law wsX7_quarrel := goodIn_r _ [533, 180, 96, 97, 98, 2, 99, 100, 101, 102, 103, 13, 267, 268, 269, 270, 17, 534, 535, 536, 182, 537, 218, 219, 538, 539, 540, 541, 217, 542, 585, 586, 587, 588, 589, 590, 591, 592, 593, 594, 595, 596, 597, 598, 646, 647, 648, 649, 650, 651, 652, 653, 654, 655, 656] (by decide +kernel) (by decide +kernel)
set_option maxRecDepth 20000 in
theorem gL_law_X7_quarrel : GoodIn wsL_law (wsV RL 109 RX7 yX7_quarrel wsX7_quarrel) := goodIn_app (goodIn_of _ (by decide +kernel)) ggL_law_X7_quarrel
set_option maxRecDepth 20000 in
theorem ggL_law_X8_quarrel : GoodIn wsL_law wsX8_quarrel := goodIn_r _ [546, 250, 44, 45, 48, 55, 134, 135, 136, 5, 137, 87, 131, 132, 133, 599, 600, 601, 602, 603, 604, 605, 606, 607, 608, 609, 610, 611, 612, 613, 614, 615, 616, 617, 618, 619, 620, 621, 622, 623, 624, 625, 626, 627, 628, 629, 630, 631, 632, 633, 634, 635] (by decide +kernel) (by decide +kernel)
set_option maxRecDepth 20000 in
theorem gL_law_X8_quarrel : GoodIn wsL_law (wsV RL 112 RX8 yX8_quarrel wsX8_quarrel) := goodIn_app (goodIn_of _ (by decide +kernel)) ggL_law_X8_quarrel
set_option maxRecDepth 20000 in
theorem ggL_law_X7_canoe : GoodIn wsL_law wsX7_canoe := goodIn_r _ [550, 266, 551, 233, 235, 307, 265, 264, 552, 312, 190, 267, 268, 269, 2, 270, 17, 148, 149, 150, 646, 647, 648, 649, 650, 651, 652, 653, 654, 655, 656, 585, 586, 587, 588, 589, 590, 591, 592, 593, 594, 595, 596, 597, 598] (by decide +kernel) (by decide +kernel)
set_option maxRecDepth 20000 in
theorem gL_law_X7_canoe : GoodIn wsL_law (wsV RL 113 RX7 yX7_canoe wsX7_canoe) := goodIn_app (goodIn_of _ (by decide +kernel)) ggL_law_X7_canoe
set_option maxRecDepth 20000 in
theorem ggL_law_X8_canoe : GoodIn wsL_law wsX8_canoe := goodIn_r _ [556, 52, 53, 44, 45, 46, 48, 47, 49, 50, 51, 286, 287, 288, 5, 289, 250, 131, 132, 133, 599, 600, 601, 602, 603, 604, 605, 606, 607, 608, 609, 610, 611, 612, 613, 614, 615, 616, 617, 618, 619, 620, 621, 622, 623, 624, 625, 626, 627, 628, 629, 630, 631, 632, 633, 634, 635] (by decide +kernel) (by decide +kernel)
set_option maxRecDepth 20000 in
theorem gL_law_X8_canoe : GoodIn wsL_law (wsV RL 116 RX8 yX8_canoe wsX8_canoe) := goodIn_app (goodIn_of _ (by decide +kernel)) ggL_law_X8_canoe
set_option maxRecDepth 20000 in
theorem ggL_law_X7_told : GoodIn wsL_law wsX7_told := goodIn_r _ [560, 146, 100, 101, 102, 2, 103, 13, 148, 149, 150, 561, 562, 563, 564, 231, 232, 237, 238, 239, 240, 19, 565, 566, 567, 72, 568, 79, 636, 637, 638, 639, 585, 586, 587, 588, 589, 590, 591, 592, 593, 594, 595, 596, 597, 598, 657, 658, 659, 660, 661, 662, 663, 664, 665, 666, 667, 668, 669, 670, 671, 672, 673, 674] (by decide +kernel) (by decide +kernel)
set_option maxRecDepth 20000 in
theorem gL_law_X7_told : GoodIn wsL_law (wsV RL 117 RX7 yX7_told wsX7_told) := goodIn_app (goodIn_of _ (by decide +kernel)) ggL_law_X7_told
set_option maxRecDepth 20000 in
theorem ggL_law_X8_told : GoodIn wsL_law wsX8_told := goodIn_r _ [572, 251, 58, 134, 135, 136, 5, 137, 87, 131, 132, 133, 159, 160, 161, 162, 34, 463, 400, 401, 402, 36, 599, 600, 601, 602, 603, 604, 605, 606, 607, 608, 609, 610, 611, 612, 613, 614, 615, 616, 617, 618, 619, 620, 621, 622, 623, 624, 625, 626, 627, 628, 629, 630, 631, 632, 633, 634, 635] (by decide +kernel) (by decide +kernel)
set_option maxRecDepth 20000 in
theorem gL_law_X8_told : GoodIn wsL_law (wsV RL 120 RX8 yX8_told wsX8_told) := goodIn_app (goodIn_of _ (by decide +kernel)) ggL_law_X8_told
set_option maxRecDepth 20000 in
theorem ggL_law_X7_count : GoodIn wsL_law wsX7_count := goodIn_r _ [576, 24, 577, 578, 579, 2, 580, 179, 70, 92, 180, 231, 276, 148, 149, 150, 104, 105, 106, 585, 586, 587, 588, 589, 590, 591, 592, 593, 594, 595, 596, 597, 598] (by decide +kernel) (by decide +kernel)
set_option maxRecDepth 20000 in
theorem gL_law_X7_count : GoodIn wsL_law (wsV RL 121 RX7 yX7_count wsX7_count) := goodIn_app (goodIn_of _ (by decide +kernel)) ggL_law_X7_count
set_option maxRecDepth 20000 in
theorem ggL_law_X8_count : GoodIn wsL_law wsX8_count := goodIn_r _ [584, 64, 249, 87, 130, 250, 251, 281, 131, 132, 5, 133, 156, 157, 158, 599, 600, 601, 602, 603, 604, 605, 606, 607, 608, 609, 610, 611, 612, 613, 614, 615, 616, 617, 618, 619, 620, 621, 622, 623, 624, 625, 626, 627, 628, 629, 630, 631, 632, 633, 634, 635] (by decide +kernel) (by decide +kernel)
set_option maxRecDepth 20000 in
theorem gL_law_X8_count : GoodIn wsL_law (wsV RL 124 RX8 yX8_count wsX8_count) := goodIn_app (goodIn_of _ (by decide +kernel)) ggL_law_X8_count
end
section
theorem dL_law_0 : decode cL_law 0 = .ok (.new 7, 3) := by decide +kernel
theorem dL_law_3 : decode cL_law 3 = .ok (.dup, 1) := by decide +kernel
theorem dL_law_4 : decode cL_law 4 = .ok (.invokespecial 9, 3) := by decide +kernel
theorem dL_law_7 : decode cL_law 7 = .ok (.astore_n 1, 1) := by decide +kernel
theorem dL_law_8 : decode cL_law 8 = .ok (.new 10, 3) := by decide +kernel
theorem dL_law_11 : decode cL_law 11 = .ok (.dup, 1) := by decide +kernel
theorem dL_law_12 : decode cL_law 12 = .ok (.invokespecial 12, 3) := by decide +kernel
theorem dL_law_15 : decode cL_law 15 = .ok (.astore_n 2, 1) := by decide +kernel
theorem dL_law_16 : decode cL_law 16 = .ok (.iconst 0, 1) := by decide +kernel
theorem dL_law_17 : decode cL_law 17 = .ok (.istore_n 3, 1) := by decide +kernel
theorem dL_law_18 : decode cL_law 18 = .ok (.iload_n 3, 1) := by decide +kernel
theorem dL_law_19 : decode cL_law 19 = .ok (.aload_n 0, 1) := by decide +kernel
theorem dL_law_20 : decode cL_law 20 = .ok (.arraylength, 1) := by decide +kernel
theorem dL_law_21 : decode cL_law 21 = .ok (.bipush 6, 2) := by decide +kernel
theorem dL_law_23 : decode cL_law 23 = .ok (.isub, 1) := by decide +kernel
theorem dL_law_24 : decode cL_law 24 = .ok (.if_icmp .gt 1152, 3) := by decide +kernel
theorem dL_law_27 : decode cL_law 27 = .ok (.aload_n 0, 1) := by decide +kernel
theorem dL_law_28 : decode cL_law 28 = .ok (.iload_n 3, 1) := by decide +kernel
theorem dL_law_29 : decode cL_law 29 = .ok (.iaload, 1) := by decide +kernel
theorem dL_law_30 : decode cL_law 30 = .ok (.bipush 31, 2) := by decide +kernel
theorem dL_law_32 : decode cL_law 32 = .ok (.iand, 1) := by decide +kernel
theorem dL_law_33 : decode cL_law 33 = .ok (.tableswitch 1137 0 25 #[119, 132, 185, 228, 261, 294, 317, 360, 383, 436, 489, 542, 575, 608, 661, 704, 737, 780, 813, 846, 889, 942, 1005, 1038, 1071, 1104], 119) := by decide +kernel
theorem dL_law_152 : decode cL_law 152 = .ok (.aload_n 1, 1) := by decide +kernel
theorem dL_law_153 : decode cL_law 153 = .ok (.invokevirtual 13, 3) := by decide +kernel
theorem dL_law_156 : decode cL_law 156 = .ok (.pop, 1) := by decide +kernel
theorem dL_law_157 : decode cL_law 157 = .ok (.aload_n 2, 1) := by decide +kernel
theorem dL_law_158 : decode cL_law 158 = .ok (.invokevirtual 17, 3) := by decide +kernel
theorem dL_law_161 : decode cL_law 161 = .ok (.pop, 1) := by decide +kernel
theorem dL_law_162 : decode cL_law 162 = .ok (.goto 1008, 3) := by decide +kernel
theorem dL_law_165 : decode cL_law 165 = .ok (.aload_n 1, 1) := by decide +kernel
theorem dL_law_166 : decode cL_law 166 = .ok (.aload_n 0, 1) := by decide +kernel
theorem dL_law_167 : decode cL_law 167 = .ok (.iload_n 3, 1) := by decide +kernel
theorem dL_law_168 : decode cL_law 168 = .ok (.iconst 1, 1) := by decide +kernel
theorem dL_law_169 : decode cL_law 169 = .ok (.iadd, 1) := by decide +kernel
theorem dL_law_170 : decode cL_law 170 = .ok (.iaload, 1) := by decide +kernel
theorem dL_law_171 : decode cL_law 171 = .ok (.aload_n 0, 1) := by decide +kernel
theorem dL_law_172 : decode cL_law 172 = .ok (.iload_n 3, 1) := by decide +kernel
theorem dL_law_173 : decode cL_law 173 = .ok (.iconst 2, 1) := by decide +kernel
theorem dL_law_174 : decode cL_law 174 = .ok (.iadd, 1) := by decide +kernel
theorem dL_law_175 : decode cL_law 175 = .ok (.iaload, 1) := by decide +kernel
theorem dL_law_176 : decode cL_law 176 = .ok (.aload_n 0, 1) := by decide +kernel
theorem dL_law_177 : decode cL_law 177 = .ok (.iload_n 3, 1) := by decide +kernel
theorem dL_law_178 : decode cL_law 178 = .ok (.iconst 3, 1) := by decide +kernel
theorem dL_law_179 : decode cL_law 179 = .ok (.iadd, 1) := by decide +kernel
theorem dL_law_180 : decode cL_law 180 = .ok (.iaload, 1) := by decide +kernel
theorem dL_law_181 : decode cL_law 181 = .ok (.aload_n 0, 1) := by decide +kernel
theorem dL_law_182 : decode cL_law 182 = .ok (.iload_n 3, 1) := by decide +kernel
theorem dL_law_183 : decode cL_law 183 = .ok (.iconst 4, 1) := by decide +kernel
theorem dL_law_184 : decode cL_law 184 = .ok (.iadd, 1) := by decide +kernel
theorem dL_law_185 : decode cL_law 185 = .ok (.iaload, 1) := by decide +kernel
theorem dL_law_186 : decode cL_law 186 = .ok (.invokevirtual 18, 3) := by decide +kernel
theorem dL_law_189 : decode cL_law 189 = .ok (.pop, 1) := by decide +kernel
theorem dL_law_190 : decode cL_law 190 = .ok (.aload_n 2, 1) := by decide +kernel
theorem dL_law_191 : decode cL_law 191 = .ok (.aload_n 0, 1) := by decide +kernel
theorem dL_law_192 : decode cL_law 192 = .ok (.iload_n 3, 1) := by decide +kernel
theorem dL_law_193 : decode cL_law 193 = .ok (.iconst 1, 1) := by decide +kernel
theorem dL_law_194 : decode cL_law 194 = .ok (.iadd, 1) := by decide +kernel
theorem dL_law_195 : decode cL_law 195 = .ok (.iaload, 1) := by decide +kernel
theorem dL_law_196 : decode cL_law 196 = .ok (.aload_n 0, 1) := by decide +kernel
theorem dL_law_197 : decode cL_law 197 = .ok (.iload_n 3, 1) := by decide +kernel
theorem dL_law_198 : decode cL_law 198 = .ok (.iconst 2, 1) := by decide +kernel
theorem dL_law_199 : decode cL_law 199 = .ok (.iadd, 1) := by decide +kernel
theorem dL_law_200 : decode cL_law 200 = .ok (.iaload, 1) := by decide +kernel
theorem dL_law_201 : decode cL_law 201 = .ok (.aload_n 0, 1) := by decide +kernel
theorem dL_law_202 : decode cL_law 202 = .ok (.iload_n 3, 1) := by decide +kernel
theorem dL_law_203 : decode cL_law 203 = .ok (.iconst 3, 1) := by decide +kernel
theorem dL_law_204 : decode cL_law 204 = .ok (.iadd, 1) := by decide +kernel
theorem dL_law_205 : decode cL_law 205 = .ok (.iaload, 1) := by decide +kernel
theorem dL_law_206 : decode cL_law 206 = .ok (.aload_n 0, 1) := by decide +kernel
theorem dL_law_207 : decode cL_law 207 = .ok (.iload_n 3, 1) := by decide +kernel
theorem dL_law_208 : decode cL_law 208 = .ok (.iconst 4, 1) := by decide +kernel
theorem dL_law_209 : decode cL_law 209 = .ok (.iadd, 1) := by decide +kernel
theorem dL_law_210 : decode cL_law 210 = .ok (.iaload, 1) := by decide +kernel
theorem dL_law_211 : decode cL_law 211 = .ok (.invokevirtual 22, 3) := by decide +kernel
theorem dL_law_214 : decode cL_law 214 = .ok (.pop, 1) := by decide +kernel
theorem dL_law_215 : decode cL_law 215 = .ok (.goto 955, 3) := by decide +kernel
theorem dL_law_218 : decode cL_law 218 = .ok (.aload_n 1, 1) := by decide +kernel
theorem dL_law_219 : decode cL_law 219 = .ok (.aload_n 0, 1) := by decide +kernel
theorem dL_law_220 : decode cL_law 220 = .ok (.iload_n 3, 1) := by decide +kernel
theorem dL_law_221 : decode cL_law 221 = .ok (.iconst 1, 1) := by decide +kernel
theorem dL_law_222 : decode cL_law 222 = .ok (.iadd, 1) := by decide +kernel
theorem dL_law_223 : decode cL_law 223 = .ok (.iaload, 1) := by decide +kernel
theorem dL_law_224 : decode cL_law 224 = .ok (.aload_n 0, 1) := by decide +kernel
theorem dL_law_225 : decode cL_law 225 = .ok (.iload_n 3, 1) := by decide +kernel
theorem dL_law_226 : decode cL_law 226 = .ok (.iconst 2, 1) := by decide +kernel
theorem dL_law_227 : decode cL_law 227 = .ok (.iadd, 1) := by decide +kernel
theorem dL_law_228 : decode cL_law 228 = .ok (.iaload, 1) := by decide +kernel
theorem dL_law_229 : decode cL_law 229 = .ok (.aload_n 0, 1) := by decide +kernel
theorem dL_law_230 : decode cL_law 230 = .ok (.iload_n 3, 1) := by decide +kernel
theorem dL_law_231 : decode cL_law 231 = .ok (.iconst 3, 1) := by decide +kernel
theorem dL_law_232 : decode cL_law 232 = .ok (.iadd, 1) := by decide +kernel
theorem dL_law_233 : decode cL_law 233 = .ok (.iaload, 1) := by decide +kernel
theorem dL_law_234 : decode cL_law 234 = .ok (.invokevirtual 23, 3) := by decide +kernel
theorem dL_law_237 : decode cL_law 237 = .ok (.pop, 1) := by decide +kernel
theorem dL_law_238 : decode cL_law 238 = .ok (.aload_n 2, 1) := by decide +kernel
theorem dL_law_239 : decode cL_law 239 = .ok (.aload_n 0, 1) := by decide +kernel
theorem dL_law_240 : decode cL_law 240 = .ok (.iload_n 3, 1) := by decide +kernel
theorem dL_law_241 : decode cL_law 241 = .ok (.iconst 1, 1) := by decide +kernel
theorem dL_law_242 : decode cL_law 242 = .ok (.iadd, 1) := by decide +kernel
theorem dL_law_243 : decode cL_law 243 = .ok (.iaload, 1) := by decide +kernel
theorem dL_law_244 : decode cL_law 244 = .ok (.aload_n 0, 1) := by decide +kernel
theorem dL_law_245 : decode cL_law 245 = .ok (.iload_n 3, 1) := by decide +kernel
theorem dL_law_246 : decode cL_law 246 = .ok (.iconst 2, 1) := by decide +kernel
theorem dL_law_247 : decode cL_law 247 = .ok (.iadd, 1) := by decide +kernel
theorem dL_law_248 : decode cL_law 248 = .ok (.iaload, 1) := by decide +kernel
theorem dL_law_249 : decode cL_law 249 = .ok (.aload_n 0, 1) := by decide +kernel
theorem dL_law_250 : decode cL_law 250 = .ok (.iload_n 3, 1) := by decide +kernel
theorem dL_law_251 : decode cL_law 251 = .ok (.iconst 3, 1) := by decide +kernel
theorem dL_law_252 : decode cL_law 252 = .ok (.iadd, 1) := by decide +kernel
theorem dL_law_253 : decode cL_law 253 = .ok (.iaload, 1) := by decide +kernel
theorem dL_law_254 : decode cL_law 254 = .ok (.invokevirtual 27, 3) := by decide +kernel
theorem dL_law_257 : decode cL_law 257 = .ok (.pop, 1) := by decide +kernel
theorem dL_law_258 : decode cL_law 258 = .ok (.goto 912, 3) := by decide +kernel
theorem dL_law_261 : decode cL_law 261 = .ok (.aload_n 1, 1) := by decide +kernel
theorem dL_law_262 : decode cL_law 262 = .ok (.aload_n 0, 1) := by decide +kernel
theorem dL_law_263 : decode cL_law 263 = .ok (.iload_n 3, 1) := by decide +kernel
theorem dL_law_264 : decode cL_law 264 = .ok (.iconst 1, 1) := by decide +kernel
theorem dL_law_265 : decode cL_law 265 = .ok (.iadd, 1) := by decide +kernel
theorem dL_law_266 : decode cL_law 266 = .ok (.iaload, 1) := by decide +kernel
theorem dL_law_267 : decode cL_law 267 = .ok (.aload_n 0, 1) := by decide +kernel
theorem dL_law_268 : decode cL_law 268 = .ok (.iload_n 3, 1) := by decide +kernel
theorem dL_law_269 : decode cL_law 269 = .ok (.iconst 2, 1) := by decide +kernel
theorem dL_law_270 : decode cL_law 270 = .ok (.iadd, 1) := by decide +kernel
theorem dL_law_271 : decode cL_law 271 = .ok (.iaload, 1) := by decide +kernel
theorem dL_law_272 : decode cL_law 272 = .ok (.invokevirtual 28, 3) := by decide +kernel
theorem dL_law_275 : decode cL_law 275 = .ok (.aload_n 2, 1) := by decide +kernel
theorem dL_law_276 : decode cL_law 276 = .ok (.aload_n 0, 1) := by decide +kernel
theorem dL_law_277 : decode cL_law 277 = .ok (.iload_n 3, 1) := by decide +kernel
theorem dL_law_278 : decode cL_law 278 = .ok (.iconst 1, 1) := by decide +kernel
theorem dL_law_279 : decode cL_law 279 = .ok (.iadd, 1) := by decide +kernel
theorem dL_law_280 : decode cL_law 280 = .ok (.iaload, 1) := by decide +kernel
theorem dL_law_281 : decode cL_law 281 = .ok (.aload_n 0, 1) := by decide +kernel
theorem dL_law_282 : decode cL_law 282 = .ok (.iload_n 3, 1) := by decide +kernel
theorem dL_law_283 : decode cL_law 283 = .ok (.iconst 2, 1) := by decide +kernel
theorem dL_law_284 : decode cL_law 284 = .ok (.iadd, 1) := by decide +kernel
theorem dL_law_285 : decode cL_law 285 = .ok (.iaload, 1) := by decide +kernel
theorem dL_law_286 : decode cL_law 286 = .ok (.invokevirtual 32, 3) := by decide +kernel
theorem dL_law_289 : decode cL_law 289 = .ok (.if_icmp .eq 881, 3) := by decide +kernel
theorem dL_law_292 : decode cL_law 292 = .ok (.iconst 0, 1) := by decide +kernel
theorem dL_law_293 : decode cL_law 293 = .ok (.ireturn, 1) := by decide +kernel
theorem dL_law_294 : decode cL_law 294 = .ok (.aload_n 1, 1) := by decide +kernel
theorem dL_law_295 : decode cL_law 295 = .ok (.aload_n 0, 1) := by decide +kernel
theorem dL_law_296 : decode cL_law 296 = .ok (.iload_n 3, 1) := by decide +kernel
theorem dL_law_297 : decode cL_law 297 = .ok (.iconst 1, 1) := by decide +kernel
theorem dL_law_298 : decode cL_law 298 = .ok (.iadd, 1) := by decide +kernel
theorem dL_law_299 : decode cL_law 299 = .ok (.iaload, 1) := by decide +kernel
theorem dL_law_300 : decode cL_law 300 = .ok (.aload_n 0, 1) := by decide +kernel
theorem dL_law_301 : decode cL_law 301 = .ok (.iload_n 3, 1) := by decide +kernel
theorem dL_law_302 : decode cL_law 302 = .ok (.iconst 2, 1) := by decide +kernel
theorem dL_law_303 : decode cL_law 303 = .ok (.iadd, 1) := by decide +kernel
theorem dL_law_304 : decode cL_law 304 = .ok (.iaload, 1) := by decide +kernel
theorem dL_law_305 : decode cL_law 305 = .ok (.invokevirtual 33, 3) := by decide +kernel
theorem dL_law_308 : decode cL_law 308 = .ok (.pop, 1) := by decide +kernel
theorem dL_law_309 : decode cL_law 309 = .ok (.aload_n 2, 1) := by decide +kernel
theorem dL_law_310 : decode cL_law 310 = .ok (.aload_n 0, 1) := by decide +kernel
theorem dL_law_311 : decode cL_law 311 = .ok (.iload_n 3, 1) := by decide +kernel
theorem dL_law_312 : decode cL_law 312 = .ok (.iconst 1, 1) := by decide +kernel
theorem dL_law_313 : decode cL_law 313 = .ok (.iadd, 1) := by decide +kernel
theorem dL_law_314 : decode cL_law 314 = .ok (.iaload, 1) := by decide +kernel
theorem dL_law_315 : decode cL_law 315 = .ok (.aload_n 0, 1) := by decide +kernel
theorem dL_law_316 : decode cL_law 316 = .ok (.iload_n 3, 1) := by decide +kernel
theorem dL_law_317 : decode cL_law 317 = .ok (.iconst 2, 1) := by decide +kernel
theorem dL_law_318 : decode cL_law 318 = .ok (.iadd, 1) := by decide +kernel
theorem dL_law_319 : decode cL_law 319 = .ok (.iaload, 1) := by decide +kernel
theorem dL_law_320 : decode cL_law 320 = .ok (.invokevirtual 37, 3) := by decide +kernel
theorem dL_law_323 : decode cL_law 323 = .ok (.pop, 1) := by decide +kernel
theorem dL_law_324 : decode cL_law 324 = .ok (.goto 846, 3) := by decide +kernel
theorem dL_law_327 : decode cL_law 327 = .ok (.aload_n 1, 1) := by decide +kernel
theorem dL_law_328 : decode cL_law 328 = .ok (.aload_n 0, 1) := by decide +kernel
theorem dL_law_329 : decode cL_law 329 = .ok (.iload_n 3, 1) := by decide +kernel
theorem dL_law_330 : decode cL_law 330 = .ok (.iconst 1, 1) := by decide +kernel
theorem dL_law_331 : decode cL_law 331 = .ok (.iadd, 1) := by decide +kernel
theorem dL_law_332 : decode cL_law 332 = .ok (.iaload, 1) := by decide +kernel
theorem dL_law_333 : decode cL_law 333 = .ok (.invokevirtual 38, 3) := by decide +kernel
theorem dL_law_336 : decode cL_law 336 = .ok (.pop, 1) := by decide +kernel
theorem dL_law_337 : decode cL_law 337 = .ok (.aload_n 2, 1) := by decide +kernel
theorem dL_law_338 : decode cL_law 338 = .ok (.aload_n 0, 1) := by decide +kernel
theorem dL_law_339 : decode cL_law 339 = .ok (.iload_n 3, 1) := by decide +kernel
theorem dL_law_340 : decode cL_law 340 = .ok (.iconst 1, 1) := by decide +kernel
theorem dL_law_341 : decode cL_law 341 = .ok (.iadd, 1) := by decide +kernel
theorem dL_law_342 : decode cL_law 342 = .ok (.iaload, 1) := by decide +kernel
theorem dL_law_343 : decode cL_law 343 = .ok (.invokevirtual 42, 3) := by decide +kernel
theorem dL_law_346 : decode cL_law 346 = .ok (.pop, 1) := by decide +kernel
theorem dL_law_347 : decode cL_law 347 = .ok (.goto 823, 3) := by decide +kernel
theorem dL_law_350 : decode cL_law 350 = .ok (.aload_n 1, 1) := by decide +kernel
theorem dL_law_351 : decode cL_law 351 = .ok (.aload_n 0, 1) := by decide +kernel
theorem dL_law_352 : decode cL_law 352 = .ok (.iload_n 3, 1) := by decide +kernel
theorem dL_law_353 : decode cL_law 353 = .ok (.iconst 1, 1) := by decide +kernel
theorem dL_law_354 : decode cL_law 354 = .ok (.iadd, 1) := by decide +kernel
theorem dL_law_355 : decode cL_law 355 = .ok (.iaload, 1) := by decide +kernel
theorem dL_law_356 : decode cL_law 356 = .ok (.aload_n 0, 1) := by decide +kernel
theorem dL_law_357 : decode cL_law 357 = .ok (.iload_n 3, 1) := by decide +kernel
theorem dL_law_358 : decode cL_law 358 = .ok (.iconst 2, 1) := by decide +kernel
theorem dL_law_359 : decode cL_law 359 = .ok (.iadd, 1) := by decide +kernel
theorem dL_law_360 : decode cL_law 360 = .ok (.iaload, 1) := by decide +kernel
theorem dL_law_361 : decode cL_law 361 = .ok (.aload_n 0, 1) := by decide +kernel
theorem dL_law_362 : decode cL_law 362 = .ok (.iload_n 3, 1) := by decide +kernel
theorem dL_law_363 : decode cL_law 363 = .ok (.iconst 3, 1) := by decide +kernel
theorem dL_law_364 : decode cL_law 364 = .ok (.iadd, 1) := by decide +kernel
theorem dL_law_365 : decode cL_law 365 = .ok (.iaload, 1) := by decide +kernel
theorem dL_law_366 : decode cL_law 366 = .ok (.invokevirtual 43, 3) := by decide +kernel
theorem dL_law_369 : decode cL_law 369 = .ok (.pop, 1) := by decide +kernel
theorem dL_law_370 : decode cL_law 370 = .ok (.aload_n 2, 1) := by decide +kernel
theorem dL_law_371 : decode cL_law 371 = .ok (.aload_n 0, 1) := by decide +kernel
theorem dL_law_372 : decode cL_law 372 = .ok (.iload_n 3, 1) := by decide +kernel
theorem dL_law_373 : decode cL_law 373 = .ok (.iconst 1, 1) := by decide +kernel
theorem dL_law_374 : decode cL_law 374 = .ok (.iadd, 1) := by decide +kernel
theorem dL_law_375 : decode cL_law 375 = .ok (.iaload, 1) := by decide +kernel
theorem dL_law_376 : decode cL_law 376 = .ok (.aload_n 0, 1) := by decide +kernel
theorem dL_law_377 : decode cL_law 377 = .ok (.iload_n 3, 1) := by decide +kernel
theorem dL_law_378 : decode cL_law 378 = .ok (.iconst 2, 1) := by decide +kernel
theorem dL_law_379 : decode cL_law 379 = .ok (.iadd, 1) := by decide +kernel
theorem dL_law_380 : decode cL_law 380 = .ok (.iaload, 1) := by decide +kernel
theorem dL_law_381 : decode cL_law 381 = .ok (.aload_n 0, 1) := by decide +kernel
theorem dL_law_382 : decode cL_law 382 = .ok (.iload_n 3, 1) := by decide +kernel
theorem dL_law_383 : decode cL_law 383 = .ok (.iconst 3, 1) := by decide +kernel
theorem dL_law_384 : decode cL_law 384 = .ok (.iadd, 1) := by decide +kernel
theorem dL_law_385 : decode cL_law 385 = .ok (.iaload, 1) := by decide +kernel
theorem dL_law_386 : decode cL_law 386 = .ok (.invokevirtual 47, 3) := by decide +kernel
theorem dL_law_389 : decode cL_law 389 = .ok (.pop, 1) := by decide +kernel
theorem dL_law_390 : decode cL_law 390 = .ok (.goto 780, 3) := by decide +kernel
theorem dL_law_393 : decode cL_law 393 = .ok (.aload_n 1, 1) := by decide +kernel
theorem dL_law_394 : decode cL_law 394 = .ok (.aload_n 0, 1) := by decide +kernel
theorem dL_law_395 : decode cL_law 395 = .ok (.iload_n 3, 1) := by decide +kernel
theorem dL_law_396 : decode cL_law 396 = .ok (.iconst 1, 1) := by decide +kernel
theorem dL_law_397 : decode cL_law 397 = .ok (.iadd, 1) := by decide +kernel
theorem dL_law_398 : decode cL_law 398 = .ok (.iaload, 1) := by decide +kernel
theorem dL_law_399 : decode cL_law 399 = .ok (.invokevirtual 48, 3) := by decide +kernel
theorem dL_law_402 : decode cL_law 402 = .ok (.pop, 1) := by decide +kernel
theorem dL_law_403 : decode cL_law 403 = .ok (.aload_n 2, 1) := by decide +kernel
theorem dL_law_404 : decode cL_law 404 = .ok (.aload_n 0, 1) := by decide +kernel
theorem dL_law_405 : decode cL_law 405 = .ok (.iload_n 3, 1) := by decide +kernel
theorem dL_law_406 : decode cL_law 406 = .ok (.iconst 1, 1) := by decide +kernel
theorem dL_law_407 : decode cL_law 407 = .ok (.iadd, 1) := by decide +kernel
theorem dL_law_408 : decode cL_law 408 = .ok (.iaload, 1) := by decide +kernel
theorem dL_law_409 : decode cL_law 409 = .ok (.invokevirtual 51, 3) := by decide +kernel
theorem dL_law_412 : decode cL_law 412 = .ok (.pop, 1) := by decide +kernel
theorem dL_law_413 : decode cL_law 413 = .ok (.goto 757, 3) := by decide +kernel
theorem dL_law_416 : decode cL_law 416 = .ok (.aload_n 1, 1) := by decide +kernel
theorem dL_law_417 : decode cL_law 417 = .ok (.aload_n 0, 1) := by decide +kernel
theorem dL_law_418 : decode cL_law 418 = .ok (.iload_n 3, 1) := by decide +kernel
theorem dL_law_419 : decode cL_law 419 = .ok (.iconst 1, 1) := by decide +kernel
theorem dL_law_420 : decode cL_law 420 = .ok (.iadd, 1) := by decide +kernel
theorem dL_law_421 : decode cL_law 421 = .ok (.iaload, 1) := by decide +kernel
theorem dL_law_422 : decode cL_law 422 = .ok (.aload_n 0, 1) := by decide +kernel
theorem dL_law_423 : decode cL_law 423 = .ok (.iload_n 3, 1) := by decide +kernel
theorem dL_law_424 : decode cL_law 424 = .ok (.iconst 2, 1) := by decide +kernel
theorem dL_law_425 : decode cL_law 425 = .ok (.iadd, 1) := by decide +kernel
theorem dL_law_426 : decode cL_law 426 = .ok (.iaload, 1) := by decide +kernel
theorem dL_law_427 : decode cL_law 427 = .ok (.aload_n 0, 1) := by decide +kernel
theorem dL_law_428 : decode cL_law 428 = .ok (.iload_n 3, 1) := by decide +kernel
theorem dL_law_429 : decode cL_law 429 = .ok (.iconst 3, 1) := by decide +kernel
theorem dL_law_430 : decode cL_law 430 = .ok (.iadd, 1) := by decide +kernel
theorem dL_law_431 : decode cL_law 431 = .ok (.iaload, 1) := by decide +kernel
theorem dL_law_432 : decode cL_law 432 = .ok (.aload_n 0, 1) := by decide +kernel
theorem dL_law_433 : decode cL_law 433 = .ok (.iload_n 3, 1) := by decide +kernel
theorem dL_law_434 : decode cL_law 434 = .ok (.iconst 4, 1) := by decide +kernel
theorem dL_law_435 : decode cL_law 435 = .ok (.iadd, 1) := by decide +kernel
theorem dL_law_436 : decode cL_law 436 = .ok (.iaload, 1) := by decide +kernel
theorem dL_law_437 : decode cL_law 437 = .ok (.invokevirtual 52, 3) := by decide +kernel
theorem dL_law_440 : decode cL_law 440 = .ok (.pop, 1) := by decide +kernel
theorem dL_law_441 : decode cL_law 441 = .ok (.aload_n 2, 1) := by decide +kernel
theorem dL_law_442 : decode cL_law 442 = .ok (.aload_n 0, 1) := by decide +kernel
theorem dL_law_443 : decode cL_law 443 = .ok (.iload_n 3, 1) := by decide +kernel
theorem dL_law_444 : decode cL_law 444 = .ok (.iconst 1, 1) := by decide +kernel
theorem dL_law_445 : decode cL_law 445 = .ok (.iadd, 1) := by decide +kernel
theorem dL_law_446 : decode cL_law 446 = .ok (.iaload, 1) := by decide +kernel
theorem dL_law_447 : decode cL_law 447 = .ok (.aload_n 0, 1) := by decide +kernel
theorem dL_law_448 : decode cL_law 448 = .ok (.iload_n 3, 1) := by decide +kernel
theorem dL_law_449 : decode cL_law 449 = .ok (.iconst 2, 1) := by decide +kernel
theorem dL_law_450 : decode cL_law 450 = .ok (.iadd, 1) := by decide +kernel
theorem dL_law_451 : decode cL_law 451 = .ok (.iaload, 1) := by decide +kernel
theorem dL_law_452 : decode cL_law 452 = .ok (.aload_n 0, 1) := by decide +kernel
theorem dL_law_453 : decode cL_law 453 = .ok (.iload_n 3, 1) := by decide +kernel
theorem dL_law_454 : decode cL_law 454 = .ok (.iconst 3, 1) := by decide +kernel
theorem dL_law_455 : decode cL_law 455 = .ok (.iadd, 1) := by decide +kernel
theorem dL_law_456 : decode cL_law 456 = .ok (.iaload, 1) := by decide +kernel
theorem dL_law_457 : decode cL_law 457 = .ok (.aload_n 0, 1) := by decide +kernel
theorem dL_law_458 : decode cL_law 458 = .ok (.iload_n 3, 1) := by decide +kernel
theorem dL_law_459 : decode cL_law 459 = .ok (.iconst 4, 1) := by decide +kernel
theorem dL_law_460 : decode cL_law 460 = .ok (.iadd, 1) := by decide +kernel
theorem dL_law_461 : decode cL_law 461 = .ok (.iaload, 1) := by decide +kernel
theorem dL_law_462 : decode cL_law 462 = .ok (.invokevirtual 55, 3) := by decide +kernel
theorem dL_law_465 : decode cL_law 465 = .ok (.pop, 1) := by decide +kernel
theorem dL_law_466 : decode cL_law 466 = .ok (.goto 704, 3) := by decide +kernel
theorem dL_law_469 : decode cL_law 469 = .ok (.aload_n 1, 1) := by decide +kernel
theorem dL_law_470 : decode cL_law 470 = .ok (.aload_n 0, 1) := by decide +kernel
theorem dL_law_471 : decode cL_law 471 = .ok (.iload_n 3, 1) := by decide +kernel
theorem dL_law_472 : decode cL_law 472 = .ok (.iconst 1, 1) := by decide +kernel
theorem dL_law_473 : decode cL_law 473 = .ok (.iadd, 1) := by decide +kernel
theorem dL_law_474 : decode cL_law 474 = .ok (.iaload, 1) := by decide +kernel
theorem dL_law_475 : decode cL_law 475 = .ok (.aload_n 0, 1) := by decide +kernel
theorem dL_law_476 : decode cL_law 476 = .ok (.iload_n 3, 1) := by decide +kernel
theorem dL_law_477 : decode cL_law 477 = .ok (.iconst 2, 1) := by decide +kernel
theorem dL_law_478 : decode cL_law 478 = .ok (.iadd, 1) := by decide +kernel
theorem dL_law_479 : decode cL_law 479 = .ok (.iaload, 1) := by decide +kernel
theorem dL_law_480 : decode cL_law 480 = .ok (.aload_n 0, 1) := by decide +kernel
theorem dL_law_481 : decode cL_law 481 = .ok (.iload_n 3, 1) := by decide +kernel
theorem dL_law_482 : decode cL_law 482 = .ok (.iconst 3, 1) := by decide +kernel
theorem dL_law_483 : decode cL_law 483 = .ok (.iadd, 1) := by decide +kernel
theorem dL_law_484 : decode cL_law 484 = .ok (.iaload, 1) := by decide +kernel
theorem dL_law_485 : decode cL_law 485 = .ok (.aload_n 0, 1) := by decide +kernel
theorem dL_law_486 : decode cL_law 486 = .ok (.iload_n 3, 1) := by decide +kernel
theorem dL_law_487 : decode cL_law 487 = .ok (.iconst 4, 1) := by decide +kernel
theorem dL_law_488 : decode cL_law 488 = .ok (.iadd, 1) := by decide +kernel
theorem dL_law_489 : decode cL_law 489 = .ok (.iaload, 1) := by decide +kernel
theorem dL_law_490 : decode cL_law 490 = .ok (.invokevirtual 56, 3) := by decide +kernel
theorem dL_law_493 : decode cL_law 493 = .ok (.pop, 1) := by decide +kernel
theorem dL_law_494 : decode cL_law 494 = .ok (.aload_n 2, 1) := by decide +kernel
theorem dL_law_495 : decode cL_law 495 = .ok (.aload_n 0, 1) := by decide +kernel
theorem dL_law_496 : decode cL_law 496 = .ok (.iload_n 3, 1) := by decide +kernel
theorem dL_law_497 : decode cL_law 497 = .ok (.iconst 1, 1) := by decide +kernel
theorem dL_law_498 : decode cL_law 498 = .ok (.iadd, 1) := by decide +kernel
theorem dL_law_499 : decode cL_law 499 = .ok (.iaload, 1) := by decide +kernel
theorem dL_law_500 : decode cL_law 500 = .ok (.aload_n 0, 1) := by decide +kernel
theorem dL_law_501 : decode cL_law 501 = .ok (.iload_n 3, 1) := by decide +kernel
theorem dL_law_502 : decode cL_law 502 = .ok (.iconst 2, 1) := by decide +kernel
theorem dL_law_503 : decode cL_law 503 = .ok (.iadd, 1) := by decide +kernel
theorem dL_law_504 : decode cL_law 504 = .ok (.iaload, 1) := by decide +kernel
theorem dL_law_505 : decode cL_law 505 = .ok (.aload_n 0, 1) := by decide +kernel
theorem dL_law_506 : decode cL_law 506 = .ok (.iload_n 3, 1) := by decide +kernel
theorem dL_law_507 : decode cL_law 507 = .ok (.iconst 3, 1) := by decide +kernel
theorem dL_law_508 : decode cL_law 508 = .ok (.iadd, 1) := by decide +kernel
theorem dL_law_509 : decode cL_law 509 = .ok (.iaload, 1) := by decide +kernel
theorem dL_law_510 : decode cL_law 510 = .ok (.aload_n 0, 1) := by decide +kernel
theorem dL_law_511 : decode cL_law 511 = .ok (.iload_n 3, 1) := by decide +kernel
theorem dL_law_512 : decode cL_law 512 = .ok (.iconst 4, 1) := by decide +kernel
theorem dL_law_513 : decode cL_law 513 = .ok (.iadd, 1) := by decide +kernel
theorem dL_law_514 : decode cL_law 514 = .ok (.iaload, 1) := by decide +kernel
theorem dL_law_515 : decode cL_law 515 = .ok (.invokevirtual 59, 3) := by decide +kernel
theorem dL_law_518 : decode cL_law 518 = .ok (.pop, 1) := by decide +kernel
theorem dL_law_519 : decode cL_law 519 = .ok (.goto 651, 3) := by decide +kernel
theorem dL_law_522 : decode cL_law 522 = .ok (.aload_n 1, 1) := by decide +kernel
theorem dL_law_523 : decode cL_law 523 = .ok (.aload_n 0, 1) := by decide +kernel
theorem dL_law_524 : decode cL_law 524 = .ok (.iload_n 3, 1) := by decide +kernel
theorem dL_law_525 : decode cL_law 525 = .ok (.iconst 1, 1) := by decide +kernel
theorem dL_law_526 : decode cL_law 526 = .ok (.iadd, 1) := by decide +kernel
theorem dL_law_527 : decode cL_law 527 = .ok (.iaload, 1) := by decide +kernel
theorem dL_law_528 : decode cL_law 528 = .ok (.aload_n 0, 1) := by decide +kernel
theorem dL_law_529 : decode cL_law 529 = .ok (.iload_n 3, 1) := by decide +kernel
theorem dL_law_530 : decode cL_law 530 = .ok (.iconst 2, 1) := by decide +kernel
theorem dL_law_531 : decode cL_law 531 = .ok (.iadd, 1) := by decide +kernel
theorem dL_law_532 : decode cL_law 532 = .ok (.iaload, 1) := by decide +kernel
theorem dL_law_533 : decode cL_law 533 = .ok (.aload_n 0, 1) := by decide +kernel
theorem dL_law_534 : decode cL_law 534 = .ok (.iload_n 3, 1) := by decide +kernel
theorem dL_law_535 : decode cL_law 535 = .ok (.iconst 3, 1) := by decide +kernel
theorem dL_law_536 : decode cL_law 536 = .ok (.iadd, 1) := by decide +kernel
theorem dL_law_537 : decode cL_law 537 = .ok (.iaload, 1) := by decide +kernel
theorem dL_law_538 : decode cL_law 538 = .ok (.aload_n 0, 1) := by decide +kernel
theorem dL_law_539 : decode cL_law 539 = .ok (.iload_n 3, 1) := by decide +kernel
theorem dL_law_540 : decode cL_law 540 = .ok (.iconst 4, 1) := by decide +kernel
theorem dL_law_541 : decode cL_law 541 = .ok (.iadd, 1) := by decide +kernel
theorem dL_law_542 : decode cL_law 542 = .ok (.iaload, 1) := by decide +kernel
theorem dL_law_543 : decode cL_law 543 = .ok (.invokevirtual 60, 3) := by decide +kernel
theorem dL_law_546 : decode cL_law 546 = .ok (.pop, 1) := by decide +kernel
theorem dL_law_547 : decode cL_law 547 = .ok (.aload_n 2, 1) := by decide +kernel
theorem dL_law_548 : decode cL_law 548 = .ok (.aload_n 0, 1) := by decide +kernel
theorem dL_law_549 : decode cL_law 549 = .ok (.iload_n 3, 1) := by decide +kernel
theorem dL_law_550 : decode cL_law 550 = .ok (.iconst 1, 1) := by decide +kernel
theorem dL_law_551 : decode cL_law 551 = .ok (.iadd, 1) := by decide +kernel
theorem dL_law_552 : decode cL_law 552 = .ok (.iaload, 1) := by decide +kernel
theorem dL_law_553 : decode cL_law 553 = .ok (.aload_n 0, 1) := by decide +kernel
theorem dL_law_554 : decode cL_law 554 = .ok (.iload_n 3, 1) := by decide +kernel
theorem dL_law_555 : decode cL_law 555 = .ok (.iconst 2, 1) := by decide +kernel
theorem dL_law_556 : decode cL_law 556 = .ok (.iadd, 1) := by decide +kernel
theorem dL_law_557 : decode cL_law 557 = .ok (.iaload, 1) := by decide +kernel
theorem dL_law_558 : decode cL_law 558 = .ok (.aload_n 0, 1) := by decide +kernel
theorem dL_law_559 : decode cL_law 559 = .ok (.iload_n 3, 1) := by decide +kernel
theorem dL_law_560 : decode cL_law 560 = .ok (.iconst 3, 1) := by decide +kernel
theorem dL_law_561 : decode cL_law 561 = .ok (.iadd, 1) := by decide +kernel
theorem dL_law_562 : decode cL_law 562 = .ok (.iaload, 1) := by decide +kernel
theorem dL_law_563 : decode cL_law 563 = .ok (.aload_n 0, 1) := by decide +kernel
theorem dL_law_564 : decode cL_law 564 = .ok (.iload_n 3, 1) := by decide +kernel
theorem dL_law_565 : decode cL_law 565 = .ok (.iconst 4, 1) := by decide +kernel
theorem dL_law_566 : decode cL_law 566 = .ok (.iadd, 1) := by decide +kernel
theorem dL_law_567 : decode cL_law 567 = .ok (.iaload, 1) := by decide +kernel
theorem dL_law_568 : decode cL_law 568 = .ok (.invokevirtual 63, 3) := by decide +kernel
theorem dL_law_571 : decode cL_law 571 = .ok (.pop, 1) := by decide +kernel
theorem dL_law_572 : decode cL_law 572 = .ok (.goto 598, 3) := by decide +kernel
theorem dL_law_575 : decode cL_law 575 = .ok (.aload_n 1, 1) := by decide +kernel
theorem dL_law_576 : decode cL_law 576 = .ok (.aload_n 0, 1) := by decide +kernel
theorem dL_law_577 : decode cL_law 577 = .ok (.iload_n 3, 1) := by decide +kernel
theorem dL_law_578 : decode cL_law 578 = .ok (.iconst 1, 1) := by decide +kernel
theorem dL_law_579 : decode cL_law 579 = .ok (.iadd, 1) := by decide +kernel
theorem dL_law_580 : decode cL_law 580 = .ok (.iaload, 1) := by decide +kernel
theorem dL_law_581 : decode cL_law 581 = .ok (.aload_n 0, 1) := by decide +kernel
theorem dL_law_582 : decode cL_law 582 = .ok (.iload_n 3, 1) := by decide +kernel
theorem dL_law_583 : decode cL_law 583 = .ok (.iconst 2, 1) := by decide +kernel
theorem dL_law_584 : decode cL_law 584 = .ok (.iadd, 1) := by decide +kernel
theorem dL_law_585 : decode cL_law 585 = .ok (.iaload, 1) := by decide +kernel
theorem dL_law_586 : decode cL_law 586 = .ok (.invokevirtual 64, 3) := by decide +kernel
theorem dL_law_589 : decode cL_law 589 = .ok (.pop, 1) := by decide +kernel
theorem dL_law_590 : decode cL_law 590 = .ok (.aload_n 2, 1) := by decide +kernel
theorem dL_law_591 : decode cL_law 591 = .ok (.aload_n 0, 1) := by decide +kernel
theorem dL_law_592 : decode cL_law 592 = .ok (.iload_n 3, 1) := by decide +kernel
theorem dL_law_593 : decode cL_law 593 = .ok (.iconst 1, 1) := by decide +kernel
theorem dL_law_594 : decode cL_law 594 = .ok (.iadd, 1) := by decide +kernel
theorem dL_law_595 : decode cL_law 595 = .ok (.iaload, 1) := by decide +kernel
theorem dL_law_596 : decode cL_law 596 = .ok (.aload_n 0, 1) := by decide +kernel
theorem dL_law_597 : decode cL_law 597 = .ok (.iload_n 3, 1) := by decide +kernel
theorem dL_law_598 : decode cL_law 598 = .ok (.iconst 2, 1) := by decide +kernel
theorem dL_law_599 : decode cL_law 599 = .ok (.iadd, 1) := by decide +kernel
theorem dL_law_600 : decode cL_law 600 = .ok (.iaload, 1) := by decide +kernel
theorem dL_law_601 : decode cL_law 601 = .ok (.invokevirtual 67, 3) := by decide +kernel
theorem dL_law_604 : decode cL_law 604 = .ok (.pop, 1) := by decide +kernel
theorem dL_law_605 : decode cL_law 605 = .ok (.goto 565, 3) := by decide +kernel
theorem dL_law_608 : decode cL_law 608 = .ok (.aload_n 1, 1) := by decide +kernel
theorem dL_law_609 : decode cL_law 609 = .ok (.aload_n 0, 1) := by decide +kernel
theorem dL_law_610 : decode cL_law 610 = .ok (.iload_n 3, 1) := by decide +kernel
theorem dL_law_611 : decode cL_law 611 = .ok (.iconst 1, 1) := by decide +kernel
theorem dL_law_612 : decode cL_law 612 = .ok (.iadd, 1) := by decide +kernel
theorem dL_law_613 : decode cL_law 613 = .ok (.iaload, 1) := by decide +kernel
theorem dL_law_614 : decode cL_law 614 = .ok (.aload_n 0, 1) := by decide +kernel
theorem dL_law_615 : decode cL_law 615 = .ok (.iload_n 3, 1) := by decide +kernel
theorem dL_law_616 : decode cL_law 616 = .ok (.iconst 2, 1) := by decide +kernel
theorem dL_law_617 : decode cL_law 617 = .ok (.iadd, 1) := by decide +kernel
theorem dL_law_618 : decode cL_law 618 = .ok (.iaload, 1) := by decide +kernel
theorem dL_law_619 : decode cL_law 619 = .ok (.invokevirtual 68, 3) := by decide +kernel
theorem dL_law_622 : decode cL_law 622 = .ok (.pop, 1) := by decide +kernel
theorem dL_law_623 : decode cL_law 623 = .ok (.aload_n 2, 1) := by decide +kernel
theorem dL_law_624 : decode cL_law 624 = .ok (.aload_n 0, 1) := by decide +kernel
theorem dL_law_625 : decode cL_law 625 = .ok (.iload_n 3, 1) := by decide +kernel
theorem dL_law_626 : decode cL_law 626 = .ok (.iconst 1, 1) := by decide +kernel
theorem dL_law_627 : decode cL_law 627 = .ok (.iadd, 1) := by decide +kernel
theorem dL_law_628 : decode cL_law 628 = .ok (.iaload, 1) := by decide +kernel
theorem dL_law_629 : decode cL_law 629 = .ok (.aload_n 0, 1) := by decide +kernel
theorem dL_law_630 : decode cL_law 630 = .ok (.iload_n 3, 1) := by decide +kernel
theorem dL_law_631 : decode cL_law 631 = .ok (.iconst 2, 1) := by decide +kernel
theorem dL_law_632 : decode cL_law 632 = .ok (.iadd, 1) := by decide +kernel
theorem dL_law_633 : decode cL_law 633 = .ok (.iaload, 1) := by decide +kernel
theorem dL_law_634 : decode cL_law 634 = .ok (.invokevirtual 71, 3) := by decide +kernel
theorem dL_law_637 : decode cL_law 637 = .ok (.pop, 1) := by decide +kernel
theorem dL_law_638 : decode cL_law 638 = .ok (.goto 532, 3) := by decide +kernel
theorem dL_law_641 : decode cL_law 641 = .ok (.aload_n 1, 1) := by decide +kernel
theorem dL_law_642 : decode cL_law 642 = .ok (.aload_n 0, 1) := by decide +kernel
theorem dL_law_643 : decode cL_law 643 = .ok (.iload_n 3, 1) := by decide +kernel
theorem dL_law_644 : decode cL_law 644 = .ok (.iconst 1, 1) := by decide +kernel
theorem dL_law_645 : decode cL_law 645 = .ok (.iadd, 1) := by decide +kernel
theorem dL_law_646 : decode cL_law 646 = .ok (.iaload, 1) := by decide +kernel
theorem dL_law_647 : decode cL_law 647 = .ok (.aload_n 0, 1) := by decide +kernel
theorem dL_law_648 : decode cL_law 648 = .ok (.iload_n 3, 1) := by decide +kernel
theorem dL_law_649 : decode cL_law 649 = .ok (.iconst 2, 1) := by decide +kernel
theorem dL_law_650 : decode cL_law 650 = .ok (.iadd, 1) := by decide +kernel
theorem dL_law_651 : decode cL_law 651 = .ok (.iaload, 1) := by decide +kernel
theorem dL_law_652 : decode cL_law 652 = .ok (.aload_n 0, 1) := by decide +kernel
theorem dL_law_653 : decode cL_law 653 = .ok (.iload_n 3, 1) := by decide +kernel
theorem dL_law_654 : decode cL_law 654 = .ok (.iconst 3, 1) := by decide +kernel
theorem dL_law_655 : decode cL_law 655 = .ok (.iadd, 1) := by decide +kernel
theorem dL_law_656 : decode cL_law 656 = .ok (.iaload, 1) := by decide +kernel
theorem dL_law_657 : decode cL_law 657 = .ok (.aload_n 0, 1) := by decide +kernel
theorem dL_law_658 : decode cL_law 658 = .ok (.iload_n 3, 1) := by decide +kernel
theorem dL_law_659 : decode cL_law 659 = .ok (.iconst 4, 1) := by decide +kernel
theorem dL_law_660 : decode cL_law 660 = .ok (.iadd, 1) := by decide +kernel
theorem dL_law_661 : decode cL_law 661 = .ok (.iaload, 1) := by decide +kernel
theorem dL_law_662 : decode cL_law 662 = .ok (.invokevirtual 72, 3) := by decide +kernel
theorem dL_law_665 : decode cL_law 665 = .ok (.pop, 1) := by decide +kernel
theorem dL_law_666 : decode cL_law 666 = .ok (.aload_n 2, 1) := by decide +kernel
theorem dL_law_667 : decode cL_law 667 = .ok (.aload_n 0, 1) := by decide +kernel
theorem dL_law_668 : decode cL_law 668 = .ok (.iload_n 3, 1) := by decide +kernel
theorem dL_law_669 : decode cL_law 669 = .ok (.iconst 1, 1) := by decide +kernel
theorem dL_law_670 : decode cL_law 670 = .ok (.iadd, 1) := by decide +kernel
theorem dL_law_671 : decode cL_law 671 = .ok (.iaload, 1) := by decide +kernel
theorem dL_law_672 : decode cL_law 672 = .ok (.aload_n 0, 1) := by decide +kernel
theorem dL_law_673 : decode cL_law 673 = .ok (.iload_n 3, 1) := by decide +kernel
theorem dL_law_674 : decode cL_law 674 = .ok (.iconst 2, 1) := by decide +kernel
theorem dL_law_675 : decode cL_law 675 = .ok (.iadd, 1) := by decide +kernel
theorem dL_law_676 : decode cL_law 676 = .ok (.iaload, 1) := by decide +kernel
theorem dL_law_677 : decode cL_law 677 = .ok (.aload_n 0, 1) := by decide +kernel
theorem dL_law_678 : decode cL_law 678 = .ok (.iload_n 3, 1) := by decide +kernel
theorem dL_law_679 : decode cL_law 679 = .ok (.iconst 3, 1) := by decide +kernel
theorem dL_law_680 : decode cL_law 680 = .ok (.iadd, 1) := by decide +kernel
theorem dL_law_681 : decode cL_law 681 = .ok (.iaload, 1) := by decide +kernel
theorem dL_law_682 : decode cL_law 682 = .ok (.aload_n 0, 1) := by decide +kernel
theorem dL_law_683 : decode cL_law 683 = .ok (.iload_n 3, 1) := by decide +kernel
theorem dL_law_684 : decode cL_law 684 = .ok (.iconst 4, 1) := by decide +kernel
theorem dL_law_685 : decode cL_law 685 = .ok (.iadd, 1) := by decide +kernel
theorem dL_law_686 : decode cL_law 686 = .ok (.iaload, 1) := by decide +kernel
theorem dL_law_687 : decode cL_law 687 = .ok (.invokevirtual 75, 3) := by decide +kernel
theorem dL_law_690 : decode cL_law 690 = .ok (.pop, 1) := by decide +kernel
theorem dL_law_691 : decode cL_law 691 = .ok (.goto 479, 3) := by decide +kernel
theorem dL_law_694 : decode cL_law 694 = .ok (.aload_n 1, 1) := by decide +kernel
theorem dL_law_695 : decode cL_law 695 = .ok (.aload_n 0, 1) := by decide +kernel
theorem dL_law_696 : decode cL_law 696 = .ok (.iload_n 3, 1) := by decide +kernel
theorem dL_law_697 : decode cL_law 697 = .ok (.iconst 1, 1) := by decide +kernel
theorem dL_law_698 : decode cL_law 698 = .ok (.iadd, 1) := by decide +kernel
theorem dL_law_699 : decode cL_law 699 = .ok (.iaload, 1) := by decide +kernel
theorem dL_law_700 : decode cL_law 700 = .ok (.aload_n 0, 1) := by decide +kernel
theorem dL_law_701 : decode cL_law 701 = .ok (.iload_n 3, 1) := by decide +kernel
theorem dL_law_702 : decode cL_law 702 = .ok (.iconst 2, 1) := by decide +kernel
theorem dL_law_703 : decode cL_law 703 = .ok (.iadd, 1) := by decide +kernel
theorem dL_law_704 : decode cL_law 704 = .ok (.iaload, 1) := by decide +kernel
theorem dL_law_705 : decode cL_law 705 = .ok (.aload_n 0, 1) := by decide +kernel
theorem dL_law_706 : decode cL_law 706 = .ok (.iload_n 3, 1) := by decide +kernel
theorem dL_law_707 : decode cL_law 707 = .ok (.iconst 3, 1) := by decide +kernel
theorem dL_law_708 : decode cL_law 708 = .ok (.iadd, 1) := by decide +kernel
theorem dL_law_709 : decode cL_law 709 = .ok (.iaload, 1) := by decide +kernel
theorem dL_law_710 : decode cL_law 710 = .ok (.invokevirtual 76, 3) := by decide +kernel
theorem dL_law_713 : decode cL_law 713 = .ok (.pop, 1) := by decide +kernel
theorem dL_law_714 : decode cL_law 714 = .ok (.aload_n 2, 1) := by decide +kernel
theorem dL_law_715 : decode cL_law 715 = .ok (.aload_n 0, 1) := by decide +kernel
theorem dL_law_716 : decode cL_law 716 = .ok (.iload_n 3, 1) := by decide +kernel
theorem dL_law_717 : decode cL_law 717 = .ok (.iconst 1, 1) := by decide +kernel
theorem dL_law_718 : decode cL_law 718 = .ok (.iadd, 1) := by decide +kernel
theorem dL_law_719 : decode cL_law 719 = .ok (.iaload, 1) := by decide +kernel
theorem dL_law_720 : decode cL_law 720 = .ok (.aload_n 0, 1) := by decide +kernel
theorem dL_law_721 : decode cL_law 721 = .ok (.iload_n 3, 1) := by decide +kernel
theorem dL_law_722 : decode cL_law 722 = .ok (.iconst 2, 1) := by decide +kernel
theorem dL_law_723 : decode cL_law 723 = .ok (.iadd, 1) := by decide +kernel
theorem dL_law_724 : decode cL_law 724 = .ok (.iaload, 1) := by decide +kernel
theorem dL_law_725 : decode cL_law 725 = .ok (.aload_n 0, 1) := by decide +kernel
theorem dL_law_726 : decode cL_law 726 = .ok (.iload_n 3, 1) := by decide +kernel
theorem dL_law_727 : decode cL_law 727 = .ok (.iconst 3, 1) := by decide +kernel
theorem dL_law_728 : decode cL_law 728 = .ok (.iadd, 1) := by decide +kernel
theorem dL_law_729 : decode cL_law 729 = .ok (.iaload, 1) := by decide +kernel
theorem dL_law_730 : decode cL_law 730 = .ok (.invokevirtual 79, 3) := by decide +kernel
theorem dL_law_733 : decode cL_law 733 = .ok (.pop, 1) := by decide +kernel
theorem dL_law_734 : decode cL_law 734 = .ok (.goto 436, 3) := by decide +kernel
theorem dL_law_737 : decode cL_law 737 = .ok (.aload_n 1, 1) := by decide +kernel
theorem dL_law_738 : decode cL_law 738 = .ok (.aload_n 0, 1) := by decide +kernel
theorem dL_law_739 : decode cL_law 739 = .ok (.iload_n 3, 1) := by decide +kernel
theorem dL_law_740 : decode cL_law 740 = .ok (.iconst 1, 1) := by decide +kernel
theorem dL_law_741 : decode cL_law 741 = .ok (.iadd, 1) := by decide +kernel
theorem dL_law_742 : decode cL_law 742 = .ok (.iaload, 1) := by decide +kernel
theorem dL_law_743 : decode cL_law 743 = .ok (.aload_n 0, 1) := by decide +kernel
theorem dL_law_744 : decode cL_law 744 = .ok (.iload_n 3, 1) := by decide +kernel
theorem dL_law_745 : decode cL_law 745 = .ok (.iconst 2, 1) := by decide +kernel
theorem dL_law_746 : decode cL_law 746 = .ok (.iadd, 1) := by decide +kernel
theorem dL_law_747 : decode cL_law 747 = .ok (.iaload, 1) := by decide +kernel
theorem dL_law_748 : decode cL_law 748 = .ok (.invokevirtual 80, 3) := by decide +kernel
theorem dL_law_751 : decode cL_law 751 = .ok (.pop, 1) := by decide +kernel
theorem dL_law_752 : decode cL_law 752 = .ok (.aload_n 2, 1) := by decide +kernel
theorem dL_law_753 : decode cL_law 753 = .ok (.aload_n 0, 1) := by decide +kernel
theorem dL_law_754 : decode cL_law 754 = .ok (.iload_n 3, 1) := by decide +kernel
theorem dL_law_755 : decode cL_law 755 = .ok (.iconst 1, 1) := by decide +kernel
theorem dL_law_756 : decode cL_law 756 = .ok (.iadd, 1) := by decide +kernel
theorem dL_law_757 : decode cL_law 757 = .ok (.iaload, 1) := by decide +kernel
theorem dL_law_758 : decode cL_law 758 = .ok (.aload_n 0, 1) := by decide +kernel
theorem dL_law_759 : decode cL_law 759 = .ok (.iload_n 3, 1) := by decide +kernel
theorem dL_law_760 : decode cL_law 760 = .ok (.iconst 2, 1) := by decide +kernel
theorem dL_law_761 : decode cL_law 761 = .ok (.iadd, 1) := by decide +kernel
theorem dL_law_762 : decode cL_law 762 = .ok (.iaload, 1) := by decide +kernel
theorem dL_law_763 : decode cL_law 763 = .ok (.invokevirtual 83, 3) := by decide +kernel
theorem dL_law_766 : decode cL_law 766 = .ok (.pop, 1) := by decide +kernel
theorem dL_law_767 : decode cL_law 767 = .ok (.goto 403, 3) := by decide +kernel
theorem dL_law_770 : decode cL_law 770 = .ok (.aload_n 1, 1) := by decide +kernel
theorem dL_law_771 : decode cL_law 771 = .ok (.aload_n 0, 1) := by decide +kernel
theorem dL_law_772 : decode cL_law 772 = .ok (.iload_n 3, 1) := by decide +kernel
theorem dL_law_773 : decode cL_law 773 = .ok (.iconst 1, 1) := by decide +kernel
theorem dL_law_774 : decode cL_law 774 = .ok (.iadd, 1) := by decide +kernel
theorem dL_law_775 : decode cL_law 775 = .ok (.iaload, 1) := by decide +kernel
theorem dL_law_776 : decode cL_law 776 = .ok (.aload_n 0, 1) := by decide +kernel
theorem dL_law_777 : decode cL_law 777 = .ok (.iload_n 3, 1) := by decide +kernel
theorem dL_law_778 : decode cL_law 778 = .ok (.iconst 2, 1) := by decide +kernel
theorem dL_law_779 : decode cL_law 779 = .ok (.iadd, 1) := by decide +kernel
theorem dL_law_780 : decode cL_law 780 = .ok (.iaload, 1) := by decide +kernel
theorem dL_law_781 : decode cL_law 781 = .ok (.aload_n 0, 1) := by decide +kernel
theorem dL_law_782 : decode cL_law 782 = .ok (.iload_n 3, 1) := by decide +kernel
theorem dL_law_783 : decode cL_law 783 = .ok (.iconst 3, 1) := by decide +kernel
theorem dL_law_784 : decode cL_law 784 = .ok (.iadd, 1) := by decide +kernel
theorem dL_law_785 : decode cL_law 785 = .ok (.iaload, 1) := by decide +kernel
theorem dL_law_786 : decode cL_law 786 = .ok (.invokevirtual 84, 3) := by decide +kernel
theorem dL_law_789 : decode cL_law 789 = .ok (.pop, 1) := by decide +kernel
theorem dL_law_790 : decode cL_law 790 = .ok (.aload_n 2, 1) := by decide +kernel
theorem dL_law_791 : decode cL_law 791 = .ok (.aload_n 0, 1) := by decide +kernel
theorem dL_law_792 : decode cL_law 792 = .ok (.iload_n 3, 1) := by decide +kernel
theorem dL_law_793 : decode cL_law 793 = .ok (.iconst 1, 1) := by decide +kernel
theorem dL_law_794 : decode cL_law 794 = .ok (.iadd, 1) := by decide +kernel
theorem dL_law_795 : decode cL_law 795 = .ok (.iaload, 1) := by decide +kernel
theorem dL_law_796 : decode cL_law 796 = .ok (.aload_n 0, 1) := by decide +kernel
theorem dL_law_797 : decode cL_law 797 = .ok (.iload_n 3, 1) := by decide +kernel
theorem dL_law_798 : decode cL_law 798 = .ok (.iconst 2, 1) := by decide +kernel
theorem dL_law_799 : decode cL_law 799 = .ok (.iadd, 1) := by decide +kernel
theorem dL_law_800 : decode cL_law 800 = .ok (.iaload, 1) := by decide +kernel
theorem dL_law_801 : decode cL_law 801 = .ok (.aload_n 0, 1) := by decide +kernel
theorem dL_law_802 : decode cL_law 802 = .ok (.iload_n 3, 1) := by decide +kernel
theorem dL_law_803 : decode cL_law 803 = .ok (.iconst 3, 1) := by decide +kernel
theorem dL_law_804 : decode cL_law 804 = .ok (.iadd, 1) := by decide +kernel
theorem dL_law_805 : decode cL_law 805 = .ok (.iaload, 1) := by decide +kernel
theorem dL_law_806 : decode cL_law 806 = .ok (.invokevirtual 87, 3) := by decide +kernel
theorem dL_law_809 : decode cL_law 809 = .ok (.pop, 1) := by decide +kernel
theorem dL_law_810 : decode cL_law 810 = .ok (.goto 360, 3) := by decide +kernel
theorem dL_law_813 : decode cL_law 813 = .ok (.aload_n 1, 1) := by decide +kernel
theorem dL_law_814 : decode cL_law 814 = .ok (.aload_n 0, 1) := by decide +kernel
theorem dL_law_815 : decode cL_law 815 = .ok (.iload_n 3, 1) := by decide +kernel
theorem dL_law_816 : decode cL_law 816 = .ok (.iconst 1, 1) := by decide +kernel
theorem dL_law_817 : decode cL_law 817 = .ok (.iadd, 1) := by decide +kernel
theorem dL_law_818 : decode cL_law 818 = .ok (.iaload, 1) := by decide +kernel
theorem dL_law_819 : decode cL_law 819 = .ok (.aload_n 0, 1) := by decide +kernel
theorem dL_law_820 : decode cL_law 820 = .ok (.iload_n 3, 1) := by decide +kernel
theorem dL_law_821 : decode cL_law 821 = .ok (.iconst 2, 1) := by decide +kernel
theorem dL_law_822 : decode cL_law 822 = .ok (.iadd, 1) := by decide +kernel
theorem dL_law_823 : decode cL_law 823 = .ok (.iaload, 1) := by decide +kernel
theorem dL_law_824 : decode cL_law 824 = .ok (.invokevirtual 88, 3) := by decide +kernel
theorem dL_law_827 : decode cL_law 827 = .ok (.pop, 1) := by decide +kernel
theorem dL_law_828 : decode cL_law 828 = .ok (.aload_n 2, 1) := by decide +kernel
theorem dL_law_829 : decode cL_law 829 = .ok (.aload_n 0, 1) := by decide +kernel
theorem dL_law_830 : decode cL_law 830 = .ok (.iload_n 3, 1) := by decide +kernel
theorem dL_law_831 : decode cL_law 831 = .ok (.iconst 1, 1) := by decide +kernel
theorem dL_law_832 : decode cL_law 832 = .ok (.iadd, 1) := by decide +kernel
theorem dL_law_833 : decode cL_law 833 = .ok (.iaload, 1) := by decide +kernel
theorem dL_law_834 : decode cL_law 834 = .ok (.aload_n 0, 1) := by decide +kernel
theorem dL_law_835 : decode cL_law 835 = .ok (.iload_n 3, 1) := by decide +kernel
theorem dL_law_836 : decode cL_law 836 = .ok (.iconst 2, 1) := by decide +kernel
theorem dL_law_837 : decode cL_law 837 = .ok (.iadd, 1) := by decide +kernel
theorem dL_law_838 : decode cL_law 838 = .ok (.iaload, 1) := by decide +kernel
theorem dL_law_839 : decode cL_law 839 = .ok (.invokevirtual 91, 3) := by decide +kernel
theorem dL_law_842 : decode cL_law 842 = .ok (.pop, 1) := by decide +kernel
theorem dL_law_843 : decode cL_law 843 = .ok (.goto 327, 3) := by decide +kernel
theorem dL_law_846 : decode cL_law 846 = .ok (.aload_n 1, 1) := by decide +kernel
theorem dL_law_847 : decode cL_law 847 = .ok (.aload_n 0, 1) := by decide +kernel
theorem dL_law_848 : decode cL_law 848 = .ok (.iload_n 3, 1) := by decide +kernel
theorem dL_law_849 : decode cL_law 849 = .ok (.iconst 1, 1) := by decide +kernel
theorem dL_law_850 : decode cL_law 850 = .ok (.iadd, 1) := by decide +kernel
theorem dL_law_851 : decode cL_law 851 = .ok (.iaload, 1) := by decide +kernel
theorem dL_law_852 : decode cL_law 852 = .ok (.aload_n 0, 1) := by decide +kernel
theorem dL_law_853 : decode cL_law 853 = .ok (.iload_n 3, 1) := by decide +kernel
theorem dL_law_854 : decode cL_law 854 = .ok (.iconst 2, 1) := by decide +kernel
theorem dL_law_855 : decode cL_law 855 = .ok (.iadd, 1) := by decide +kernel
theorem dL_law_856 : decode cL_law 856 = .ok (.iaload, 1) := by decide +kernel
theorem dL_law_857 : decode cL_law 857 = .ok (.invokevirtual 92, 3) := by decide +kernel
theorem dL_law_860 : decode cL_law 860 = .ok (.pop, 1) := by decide +kernel
theorem dL_law_861 : decode cL_law 861 = .ok (.aload_n 2, 1) := by decide +kernel
theorem dL_law_862 : decode cL_law 862 = .ok (.aload_n 0, 1) := by decide +kernel
theorem dL_law_863 : decode cL_law 863 = .ok (.iload_n 3, 1) := by decide +kernel
theorem dL_law_864 : decode cL_law 864 = .ok (.iconst 1, 1) := by decide +kernel
theorem dL_law_865 : decode cL_law 865 = .ok (.iadd, 1) := by decide +kernel
theorem dL_law_866 : decode cL_law 866 = .ok (.iaload, 1) := by decide +kernel
theorem dL_law_867 : decode cL_law 867 = .ok (.aload_n 0, 1) := by decide +kernel
theorem dL_law_868 : decode cL_law 868 = .ok (.iload_n 3, 1) := by decide +kernel
theorem dL_law_869 : decode cL_law 869 = .ok (.iconst 2, 1) := by decide +kernel
theorem dL_law_870 : decode cL_law 870 = .ok (.iadd, 1) := by decide +kernel
theorem dL_law_871 : decode cL_law 871 = .ok (.iaload, 1) := by decide +kernel
theorem dL_law_872 : decode cL_law 872 = .ok (.invokevirtual 95, 3) := by decide +kernel
theorem dL_law_875 : decode cL_law 875 = .ok (.pop, 1) := by decide +kernel
theorem dL_law_876 : decode cL_law 876 = .ok (.goto 294, 3) := by decide +kernel
theorem dL_law_879 : decode cL_law 879 = .ok (.aload_n 1, 1) := by decide +kernel
theorem dL_law_880 : decode cL_law 880 = .ok (.aload_n 0, 1) := by decide +kernel
theorem dL_law_881 : decode cL_law 881 = .ok (.iload_n 3, 1) := by decide +kernel
theorem dL_law_882 : decode cL_law 882 = .ok (.iconst 1, 1) := by decide +kernel
theorem dL_law_883 : decode cL_law 883 = .ok (.iadd, 1) := by decide +kernel
theorem dL_law_884 : decode cL_law 884 = .ok (.iaload, 1) := by decide +kernel
theorem dL_law_885 : decode cL_law 885 = .ok (.aload_n 0, 1) := by decide +kernel
theorem dL_law_886 : decode cL_law 886 = .ok (.iload_n 3, 1) := by decide +kernel
theorem dL_law_887 : decode cL_law 887 = .ok (.iconst 2, 1) := by decide +kernel
theorem dL_law_888 : decode cL_law 888 = .ok (.iadd, 1) := by decide +kernel
theorem dL_law_889 : decode cL_law 889 = .ok (.iaload, 1) := by decide +kernel
theorem dL_law_890 : decode cL_law 890 = .ok (.aload_n 0, 1) := by decide +kernel
theorem dL_law_891 : decode cL_law 891 = .ok (.iload_n 3, 1) := by decide +kernel
theorem dL_law_892 : decode cL_law 892 = .ok (.iconst 3, 1) := by decide +kernel
theorem dL_law_893 : decode cL_law 893 = .ok (.iadd, 1) := by decide +kernel
theorem dL_law_894 : decode cL_law 894 = .ok (.iaload, 1) := by decide +kernel
theorem dL_law_895 : decode cL_law 895 = .ok (.invokevirtual 96, 3) := by decide +kernel
theorem dL_law_898 : decode cL_law 898 = .ok (.pop, 1) := by decide +kernel
theorem dL_law_899 : decode cL_law 899 = .ok (.aload_n 2, 1) := by decide +kernel
theorem dL_law_900 : decode cL_law 900 = .ok (.aload_n 0, 1) := by decide +kernel
theorem dL_law_901 : decode cL_law 901 = .ok (.iload_n 3, 1) := by decide +kernel
theorem dL_law_902 : decode cL_law 902 = .ok (.iconst 1, 1) := by decide +kernel
theorem dL_law_903 : decode cL_law 903 = .ok (.iadd, 1) := by decide +kernel
theorem dL_law_904 : decode cL_law 904 = .ok (.iaload, 1) := by decide +kernel
theorem dL_law_905 : decode cL_law 905 = .ok (.aload_n 0, 1) := by decide +kernel
theorem dL_law_906 : decode cL_law 906 = .ok (.iload_n 3, 1) := by decide +kernel
theorem dL_law_907 : decode cL_law 907 = .ok (.iconst 2, 1) := by decide +kernel
theorem dL_law_908 : decode cL_law 908 = .ok (.iadd, 1) := by decide +kernel
theorem dL_law_909 : decode cL_law 909 = .ok (.iaload, 1) := by decide +kernel
theorem dL_law_910 : decode cL_law 910 = .ok (.aload_n 0, 1) := by decide +kernel
theorem dL_law_911 : decode cL_law 911 = .ok (.iload_n 3, 1) := by decide +kernel
theorem dL_law_912 : decode cL_law 912 = .ok (.iconst 3, 1) := by decide +kernel
theorem dL_law_913 : decode cL_law 913 = .ok (.iadd, 1) := by decide +kernel
theorem dL_law_914 : decode cL_law 914 = .ok (.iaload, 1) := by decide +kernel
theorem dL_law_915 : decode cL_law 915 = .ok (.invokevirtual 99, 3) := by decide +kernel
theorem dL_law_918 : decode cL_law 918 = .ok (.pop, 1) := by decide +kernel
theorem dL_law_919 : decode cL_law 919 = .ok (.goto 251, 3) := by decide +kernel
theorem dL_law_922 : decode cL_law 922 = .ok (.aload_n 1, 1) := by decide +kernel
theorem dL_law_923 : decode cL_law 923 = .ok (.aload_n 0, 1) := by decide +kernel
theorem dL_law_924 : decode cL_law 924 = .ok (.iload_n 3, 1) := by decide +kernel
theorem dL_law_925 : decode cL_law 925 = .ok (.iconst 1, 1) := by decide +kernel
theorem dL_law_926 : decode cL_law 926 = .ok (.iadd, 1) := by decide +kernel
theorem dL_law_927 : decode cL_law 927 = .ok (.iaload, 1) := by decide +kernel
theorem dL_law_928 : decode cL_law 928 = .ok (.aload_n 0, 1) := by decide +kernel
theorem dL_law_929 : decode cL_law 929 = .ok (.iload_n 3, 1) := by decide +kernel
theorem dL_law_930 : decode cL_law 930 = .ok (.iconst 2, 1) := by decide +kernel
theorem dL_law_931 : decode cL_law 931 = .ok (.iadd, 1) := by decide +kernel
theorem dL_law_932 : decode cL_law 932 = .ok (.iaload, 1) := by decide +kernel
theorem dL_law_933 : decode cL_law 933 = .ok (.aload_n 0, 1) := by decide +kernel
theorem dL_law_934 : decode cL_law 934 = .ok (.iload_n 3, 1) := by decide +kernel
theorem dL_law_935 : decode cL_law 935 = .ok (.iconst 3, 1) := by decide +kernel
theorem dL_law_936 : decode cL_law 936 = .ok (.iadd, 1) := by decide +kernel
theorem dL_law_937 : decode cL_law 937 = .ok (.iaload, 1) := by decide +kernel
theorem dL_law_938 : decode cL_law 938 = .ok (.aload_n 0, 1) := by decide +kernel
theorem dL_law_939 : decode cL_law 939 = .ok (.iload_n 3, 1) := by decide +kernel
theorem dL_law_940 : decode cL_law 940 = .ok (.iconst 4, 1) := by decide +kernel
theorem dL_law_941 : decode cL_law 941 = .ok (.iadd, 1) := by decide +kernel
theorem dL_law_942 : decode cL_law 942 = .ok (.iaload, 1) := by decide +kernel
theorem dL_law_943 : decode cL_law 943 = .ok (.invokevirtual 100, 3) := by decide +kernel
theorem dL_law_946 : decode cL_law 946 = .ok (.pop, 1) := by decide +kernel
theorem dL_law_947 : decode cL_law 947 = .ok (.aload_n 2, 1) := by decide +kernel
theorem dL_law_948 : decode cL_law 948 = .ok (.aload_n 0, 1) := by decide +kernel
theorem dL_law_949 : decode cL_law 949 = .ok (.iload_n 3, 1) := by decide +kernel
theorem dL_law_950 : decode cL_law 950 = .ok (.iconst 1, 1) := by decide +kernel
theorem dL_law_951 : decode cL_law 951 = .ok (.iadd, 1) := by decide +kernel
theorem dL_law_952 : decode cL_law 952 = .ok (.iaload, 1) := by decide +kernel
theorem dL_law_953 : decode cL_law 953 = .ok (.aload_n 0, 1) := by decide +kernel
theorem dL_law_954 : decode cL_law 954 = .ok (.iload_n 3, 1) := by decide +kernel
theorem dL_law_955 : decode cL_law 955 = .ok (.iconst 2, 1) := by decide +kernel
theorem dL_law_956 : decode cL_law 956 = .ok (.iadd, 1) := by decide +kernel
theorem dL_law_957 : decode cL_law 957 = .ok (.iaload, 1) := by decide +kernel
theorem dL_law_958 : decode cL_law 958 = .ok (.aload_n 0, 1) := by decide +kernel
theorem dL_law_959 : decode cL_law 959 = .ok (.iload_n 3, 1) := by decide +kernel
theorem dL_law_960 : decode cL_law 960 = .ok (.iconst 3, 1) := by decide +kernel
theorem dL_law_961 : decode cL_law 961 = .ok (.iadd, 1) := by decide +kernel
theorem dL_law_962 : decode cL_law 962 = .ok (.iaload, 1) := by decide +kernel
theorem dL_law_963 : decode cL_law 963 = .ok (.aload_n 0, 1) := by decide +kernel
theorem dL_law_964 : decode cL_law 964 = .ok (.iload_n 3, 1) := by decide +kernel
theorem dL_law_965 : decode cL_law 965 = .ok (.iconst 4, 1) := by decide +kernel
theorem dL_law_966 : decode cL_law 966 = .ok (.iadd, 1) := by decide +kernel
theorem dL_law_967 : decode cL_law 967 = .ok (.iaload, 1) := by decide +kernel
theorem dL_law_968 : decode cL_law 968 = .ok (.invokevirtual 103, 3) := by decide +kernel
theorem dL_law_971 : decode cL_law 971 = .ok (.pop, 1) := by decide +kernel
theorem dL_law_972 : decode cL_law 972 = .ok (.goto 198, 3) := by decide +kernel
theorem dL_law_975 : decode cL_law 975 = .ok (.aload_n 1, 1) := by decide +kernel
theorem dL_law_976 : decode cL_law 976 = .ok (.aload_n 0, 1) := by decide +kernel
theorem dL_law_977 : decode cL_law 977 = .ok (.iload_n 3, 1) := by decide +kernel
theorem dL_law_978 : decode cL_law 978 = .ok (.iconst 1, 1) := by decide +kernel
theorem dL_law_979 : decode cL_law 979 = .ok (.iadd, 1) := by decide +kernel
theorem dL_law_980 : decode cL_law 980 = .ok (.iaload, 1) := by decide +kernel
theorem dL_law_981 : decode cL_law 981 = .ok (.aload_n 0, 1) := by decide +kernel
theorem dL_law_982 : decode cL_law 982 = .ok (.iload_n 3, 1) := by decide +kernel
theorem dL_law_983 : decode cL_law 983 = .ok (.iconst 2, 1) := by decide +kernel
theorem dL_law_984 : decode cL_law 984 = .ok (.iadd, 1) := by decide +kernel
theorem dL_law_985 : decode cL_law 985 = .ok (.iaload, 1) := by decide +kernel
theorem dL_law_986 : decode cL_law 986 = .ok (.aload_n 0, 1) := by decide +kernel
theorem dL_law_987 : decode cL_law 987 = .ok (.iload_n 3, 1) := by decide +kernel
theorem dL_law_988 : decode cL_law 988 = .ok (.iconst 3, 1) := by decide +kernel
theorem dL_law_989 : decode cL_law 989 = .ok (.iadd, 1) := by decide +kernel
theorem dL_law_990 : decode cL_law 990 = .ok (.iaload, 1) := by decide +kernel
theorem dL_law_991 : decode cL_law 991 = .ok (.aload_n 0, 1) := by decide +kernel
theorem dL_law_992 : decode cL_law 992 = .ok (.iload_n 3, 1) := by decide +kernel
theorem dL_law_993 : decode cL_law 993 = .ok (.iconst 4, 1) := by decide +kernel
theorem dL_law_994 : decode cL_law 994 = .ok (.iadd, 1) := by decide +kernel
theorem dL_law_995 : decode cL_law 995 = .ok (.iaload, 1) := by decide +kernel
theorem dL_law_996 : decode cL_law 996 = .ok (.aload_n 0, 1) := by decide +kernel
theorem dL_law_997 : decode cL_law 997 = .ok (.iload_n 3, 1) := by decide +kernel
theorem dL_law_998 : decode cL_law 998 = .ok (.iconst 5, 1) := by decide +kernel
theorem dL_law_999 : decode cL_law 999 = .ok (.iadd, 1) := by decide +kernel
theorem dL_law_1000 : decode cL_law 1000 = .ok (.iaload, 1) := by decide +kernel
theorem dL_law_1001 : decode cL_law 1001 = .ok (.invokevirtual 104, 3) := by decide +kernel
theorem dL_law_1004 : decode cL_law 1004 = .ok (.pop, 1) := by decide +kernel
theorem dL_law_1005 : decode cL_law 1005 = .ok (.aload_n 2, 1) := by decide +kernel
theorem dL_law_1006 : decode cL_law 1006 = .ok (.aload_n 0, 1) := by decide +kernel
theorem dL_law_1007 : decode cL_law 1007 = .ok (.iload_n 3, 1) := by decide +kernel
theorem dL_law_1008 : decode cL_law 1008 = .ok (.iconst 1, 1) := by decide +kernel
theorem dL_law_1009 : decode cL_law 1009 = .ok (.iadd, 1) := by decide +kernel
theorem dL_law_1010 : decode cL_law 1010 = .ok (.iaload, 1) := by decide +kernel
theorem dL_law_1011 : decode cL_law 1011 = .ok (.aload_n 0, 1) := by decide +kernel
theorem dL_law_1012 : decode cL_law 1012 = .ok (.iload_n 3, 1) := by decide +kernel
theorem dL_law_1013 : decode cL_law 1013 = .ok (.iconst 2, 1) := by decide +kernel
theorem dL_law_1014 : decode cL_law 1014 = .ok (.iadd, 1) := by decide +kernel
theorem dL_law_1015 : decode cL_law 1015 = .ok (.iaload, 1) := by decide +kernel
theorem dL_law_1016 : decode cL_law 1016 = .ok (.aload_n 0, 1) := by decide +kernel
theorem dL_law_1017 : decode cL_law 1017 = .ok (.iload_n 3, 1) := by decide +kernel
theorem dL_law_1018 : decode cL_law 1018 = .ok (.iconst 3, 1) := by decide +kernel
theorem dL_law_1019 : decode cL_law 1019 = .ok (.iadd, 1) := by decide +kernel
theorem dL_law_1020 : decode cL_law 1020 = .ok (.iaload, 1) := by decide +kernel
theorem dL_law_1021 : decode cL_law 1021 = .ok (.aload_n 0, 1) := by decide +kernel
theorem dL_law_1022 : decode cL_law 1022 = .ok (.iload_n 3, 1) := by decide +kernel
theorem dL_law_1023 : decode cL_law 1023 = .ok (.iconst 4, 1) := by decide +kernel
theorem dL_law_1024 : decode cL_law 1024 = .ok (.iadd, 1) := by decide +kernel
theorem dL_law_1025 : decode cL_law 1025 = .ok (.iaload, 1) := by decide +kernel
theorem dL_law_1026 : decode cL_law 1026 = .ok (.aload_n 0, 1) := by decide +kernel
theorem dL_law_1027 : decode cL_law 1027 = .ok (.iload_n 3, 1) := by decide +kernel
theorem dL_law_1028 : decode cL_law 1028 = .ok (.iconst 5, 1) := by decide +kernel
theorem dL_law_1029 : decode cL_law 1029 = .ok (.iadd, 1) := by decide +kernel
theorem dL_law_1030 : decode cL_law 1030 = .ok (.iaload, 1) := by decide +kernel
theorem dL_law_1031 : decode cL_law 1031 = .ok (.invokevirtual 108, 3) := by decide +kernel
theorem dL_law_1034 : decode cL_law 1034 = .ok (.pop, 1) := by decide +kernel
theorem dL_law_1035 : decode cL_law 1035 = .ok (.goto 135, 3) := by decide +kernel
theorem dL_law_1038 : decode cL_law 1038 = .ok (.aload_n 1, 1) := by decide +kernel
theorem dL_law_1039 : decode cL_law 1039 = .ok (.aload_n 0, 1) := by decide +kernel
theorem dL_law_1040 : decode cL_law 1040 = .ok (.iload_n 3, 1) := by decide +kernel
theorem dL_law_1041 : decode cL_law 1041 = .ok (.iconst 1, 1) := by decide +kernel
theorem dL_law_1042 : decode cL_law 1042 = .ok (.iadd, 1) := by decide +kernel
theorem dL_law_1043 : decode cL_law 1043 = .ok (.iaload, 1) := by decide +kernel
theorem dL_law_1044 : decode cL_law 1044 = .ok (.aload_n 0, 1) := by decide +kernel
theorem dL_law_1045 : decode cL_law 1045 = .ok (.iload_n 3, 1) := by decide +kernel
theorem dL_law_1046 : decode cL_law 1046 = .ok (.iconst 2, 1) := by decide +kernel
theorem dL_law_1047 : decode cL_law 1047 = .ok (.iadd, 1) := by decide +kernel
theorem dL_law_1048 : decode cL_law 1048 = .ok (.iaload, 1) := by decide +kernel
theorem dL_law_1049 : decode cL_law 1049 = .ok (.invokevirtual 109, 3) := by decide +kernel
theorem dL_law_1052 : decode cL_law 1052 = .ok (.pop, 1) := by decide +kernel
theorem dL_law_1053 : decode cL_law 1053 = .ok (.aload_n 2, 1) := by decide +kernel
theorem dL_law_1054 : decode cL_law 1054 = .ok (.aload_n 0, 1) := by decide +kernel
theorem dL_law_1055 : decode cL_law 1055 = .ok (.iload_n 3, 1) := by decide +kernel
theorem dL_law_1056 : decode cL_law 1056 = .ok (.iconst 1, 1) := by decide +kernel
theorem dL_law_1057 : decode cL_law 1057 = .ok (.iadd, 1) := by decide +kernel
theorem dL_law_1058 : decode cL_law 1058 = .ok (.iaload, 1) := by decide +kernel
theorem dL_law_1059 : decode cL_law 1059 = .ok (.aload_n 0, 1) := by decide +kernel
theorem dL_law_1060 : decode cL_law 1060 = .ok (.iload_n 3, 1) := by decide +kernel
theorem dL_law_1061 : decode cL_law 1061 = .ok (.iconst 2, 1) := by decide +kernel
theorem dL_law_1062 : decode cL_law 1062 = .ok (.iadd, 1) := by decide +kernel
theorem dL_law_1063 : decode cL_law 1063 = .ok (.iaload, 1) := by decide +kernel
theorem dL_law_1064 : decode cL_law 1064 = .ok (.invokevirtual 112, 3) := by decide +kernel
theorem dL_law_1067 : decode cL_law 1067 = .ok (.pop, 1) := by decide +kernel
theorem dL_law_1068 : decode cL_law 1068 = .ok (.goto 102, 3) := by decide +kernel
theorem dL_law_1071 : decode cL_law 1071 = .ok (.aload_n 1, 1) := by decide +kernel
theorem dL_law_1072 : decode cL_law 1072 = .ok (.aload_n 0, 1) := by decide +kernel
theorem dL_law_1073 : decode cL_law 1073 = .ok (.iload_n 3, 1) := by decide +kernel
theorem dL_law_1074 : decode cL_law 1074 = .ok (.iconst 1, 1) := by decide +kernel
theorem dL_law_1075 : decode cL_law 1075 = .ok (.iadd, 1) := by decide +kernel
theorem dL_law_1076 : decode cL_law 1076 = .ok (.iaload, 1) := by decide +kernel
theorem dL_law_1077 : decode cL_law 1077 = .ok (.aload_n 0, 1) := by decide +kernel
theorem dL_law_1078 : decode cL_law 1078 = .ok (.iload_n 3, 1) := by decide +kernel
theorem dL_law_1079 : decode cL_law 1079 = .ok (.iconst 2, 1) := by decide +kernel
theorem dL_law_1080 : decode cL_law 1080 = .ok (.iadd, 1) := by decide +kernel
theorem dL_law_1081 : decode cL_law 1081 = .ok (.iaload, 1) := by decide +kernel
theorem dL_law_1082 : decode cL_law 1082 = .ok (.invokevirtual 113, 3) := by decide +kernel
theorem dL_law_1085 : decode cL_law 1085 = .ok (.pop, 1) := by decide +kernel
theorem dL_law_1086 : decode cL_law 1086 = .ok (.aload_n 2, 1) := by decide +kernel
theorem dL_law_1087 : decode cL_law 1087 = .ok (.aload_n 0, 1) := by decide +kernel
theorem dL_law_1088 : decode cL_law 1088 = .ok (.iload_n 3, 1) := by decide +kernel
theorem dL_law_1089 : decode cL_law 1089 = .ok (.iconst 1, 1) := by decide +kernel
theorem dL_law_1090 : decode cL_law 1090 = .ok (.iadd, 1) := by decide +kernel
theorem dL_law_1091 : decode cL_law 1091 = .ok (.iaload, 1) := by decide +kernel
theorem dL_law_1092 : decode cL_law 1092 = .ok (.aload_n 0, 1) := by decide +kernel
theorem dL_law_1093 : decode cL_law 1093 = .ok (.iload_n 3, 1) := by decide +kernel
theorem dL_law_1094 : decode cL_law 1094 = .ok (.iconst 2, 1) := by decide +kernel
theorem dL_law_1095 : decode cL_law 1095 = .ok (.iadd, 1) := by decide +kernel
theorem dL_law_1096 : decode cL_law 1096 = .ok (.iaload, 1) := by decide +kernel
theorem dL_law_1097 : decode cL_law 1097 = .ok (.invokevirtual 116, 3) := by decide +kernel
theorem dL_law_1100 : decode cL_law 1100 = .ok (.pop, 1) := by decide +kernel
theorem dL_law_1101 : decode cL_law 1101 = .ok (.goto 69, 3) := by decide +kernel
theorem dL_law_1104 : decode cL_law 1104 = .ok (.aload_n 1, 1) := by decide +kernel
theorem dL_law_1105 : decode cL_law 1105 = .ok (.aload_n 0, 1) := by decide +kernel
theorem dL_law_1106 : decode cL_law 1106 = .ok (.iload_n 3, 1) := by decide +kernel
theorem dL_law_1107 : decode cL_law 1107 = .ok (.iconst 1, 1) := by decide +kernel
theorem dL_law_1108 : decode cL_law 1108 = .ok (.iadd, 1) := by decide +kernel
theorem dL_law_1109 : decode cL_law 1109 = .ok (.iaload, 1) := by decide +kernel
theorem dL_law_1110 : decode cL_law 1110 = .ok (.aload_n 0, 1) := by decide +kernel
theorem dL_law_1111 : decode cL_law 1111 = .ok (.iload_n 3, 1) := by decide +kernel
theorem dL_law_1112 : decode cL_law 1112 = .ok (.iconst 2, 1) := by decide +kernel
theorem dL_law_1113 : decode cL_law 1113 = .ok (.iadd, 1) := by decide +kernel
theorem dL_law_1114 : decode cL_law 1114 = .ok (.iaload, 1) := by decide +kernel
theorem dL_law_1115 : decode cL_law 1115 = .ok (.invokevirtual 117, 3) := by decide +kernel
theorem dL_law_1118 : decode cL_law 1118 = .ok (.pop, 1) := by decide +kernel
theorem dL_law_1119 : decode cL_law 1119 = .ok (.aload_n 2, 1) := by decide +kernel
theorem dL_law_1120 : decode cL_law 1120 = .ok (.aload_n 0, 1) := by decide +kernel
theorem dL_law_1121 : decode cL_law 1121 = .ok (.iload_n 3, 1) := by decide +kernel
theorem dL_law_1122 : decode cL_law 1122 = .ok (.iconst 1, 1) := by decide +kernel
theorem dL_law_1123 : decode cL_law 1123 = .ok (.iadd, 1) := by decide +kernel
theorem dL_law_1124 : decode cL_law 1124 = .ok (.iaload, 1) := by decide +kernel
theorem dL_law_1125 : decode cL_law 1125 = .ok (.aload_n 0, 1) := by decide +kernel
theorem dL_law_1126 : decode cL_law 1126 = .ok (.iload_n 3, 1) := by decide +kernel
theorem dL_law_1127 : decode cL_law 1127 = .ok (.iconst 2, 1) := by decide +kernel
theorem dL_law_1128 : decode cL_law 1128 = .ok (.iadd, 1) := by decide +kernel
theorem dL_law_1129 : decode cL_law 1129 = .ok (.iaload, 1) := by decide +kernel
theorem dL_law_1130 : decode cL_law 1130 = .ok (.invokevirtual 120, 3) := by decide +kernel
theorem dL_law_1133 : decode cL_law 1133 = .ok (.pop, 1) := by decide +kernel
theorem dL_law_1134 : decode cL_law 1134 = .ok (.goto 36, 3) := by decide +kernel
theorem dL_law_1137 : decode cL_law 1137 = .ok (.aload_n 1, 1) := by decide +kernel
theorem dL_law_1138 : decode cL_law 1138 = .ok (.aload_n 0, 1) := by decide +kernel
theorem dL_law_1139 : decode cL_law 1139 = .ok (.iload_n 3, 1) := by decide +kernel
theorem dL_law_1140 : decode cL_law 1140 = .ok (.iconst 1, 1) := by decide +kernel
theorem dL_law_1141 : decode cL_law 1141 = .ok (.iadd, 1) := by decide +kernel
theorem dL_law_1142 : decode cL_law 1142 = .ok (.iaload, 1) := by decide +kernel
theorem dL_law_1143 : decode cL_law 1143 = .ok (.aload_n 0, 1) := by decide +kernel
theorem dL_law_1144 : decode cL_law 1144 = .ok (.iload_n 3, 1) := by decide +kernel
theorem dL_law_1145 : decode cL_law 1145 = .ok (.iconst 2, 1) := by decide +kernel
theorem dL_law_1146 : decode cL_law 1146 = .ok (.iadd, 1) := by decide +kernel
theorem dL_law_1147 : decode cL_law 1147 = .ok (.iaload, 1) := by decide +kernel
theorem dL_law_1148 : decode cL_law 1148 = .ok (.invokevirtual 121, 3) := by decide +kernel
theorem dL_law_1151 : decode cL_law 1151 = .ok (.pop, 1) := by decide +kernel
theorem dL_law_1152 : decode cL_law 1152 = .ok (.aload_n 2, 1) := by decide +kernel
theorem dL_law_1153 : decode cL_law 1153 = .ok (.aload_n 0, 1) := by decide +kernel
theorem dL_law_1154 : decode cL_law 1154 = .ok (.iload_n 3, 1) := by decide +kernel
theorem dL_law_1155 : decode cL_law 1155 = .ok (.iconst 1, 1) := by decide +kernel
theorem dL_law_1156 : decode cL_law 1156 = .ok (.iadd, 1) := by decide +kernel
theorem dL_law_1157 : decode cL_law 1157 = .ok (.iaload, 1) := by decide +kernel
theorem dL_law_1158 : decode cL_law 1158 = .ok (.aload_n 0, 1) := by decide +kernel
theorem dL_law_1159 : decode cL_law 1159 = .ok (.iload_n 3, 1) := by decide +kernel
theorem dL_law_1160 : decode cL_law 1160 = .ok (.iconst 2, 1) := by decide +kernel
theorem dL_law_1161 : decode cL_law 1161 = .ok (.iadd, 1) := by decide +kernel
theorem dL_law_1162 : decode cL_law 1162 = .ok (.iaload, 1) := by decide +kernel
theorem dL_law_1163 : decode cL_law 1163 = .ok (.invokevirtual 124, 3) := by decide +kernel
theorem dL_law_1166 : decode cL_law 1166 = .ok (.pop, 1) := by decide +kernel
theorem dL_law_1167 : decode cL_law 1167 = .ok (.goto 3, 3) := by decide +kernel
theorem dL_law_1170 : decode cL_law 1170 = .ok (.iinc 3 6, 3) := by decide +kernel
theorem dL_law_1173 : decode cL_law 1173 = .ok (.goto (-1155), 3) := by decide +kernel
theorem dL_law_1176 : decode cL_law 1176 = .ok (.iconst 1, 1) := by decide +kernel
theorem dL_law_1177 : decode cL_law 1177 = .ok (.ireturn, 1) := by decide +kernel
abbrev vwCl : List vw_C := [(RX0, TX0, 11), (RX1, TX1, 6), (RX3, TX3, 6), (RX4, TX4, 4), (RX5, TX5, 6), (RX6, TX6, 6), (RX7, TX7, 14), (RX8, TX8, 37)]
end
section
/-! words for methods that change no cell -/
/-- a method that changes no cell: its answer, and the heap as it was -/
def pu_Q (v : Value) : Array Value → State → Outcome → State → Prop := fun _ st oc t => oc = .returned (some v) ∧ t.heap = st.heap
abbrev pu_F : Addr → Prop := fun _ => False
section PU
variable {p : Program} {l : Launch} {e : Env} {R : Room} {s : State} {m : MethodId} {args : Array Value} {below : List Frame} {meth : Method} {c : Code} {H : Heap} {locs : List Loc} {cells slots : Nat} {Q : State → Prop}
theorem pu_call {pc : Nat} {ls : Array Slot} {rest st0 : List Value} {a : Array Value} {v : Value} (hr : va_Run p l e R s m args below meth c H locs cells slots 0 0 (F0 m pc ls st0) rest (pu_Q v a) pu_F)
    (kk : W p l e R s m args below meth c H locs cells slots Q (F0 m (pc + 3) ls (v :: rest))) : W p l e R s m args below meth c H locs cells slots Q (F0 m pc ls st0) := by
  intro T hT X
  obtain ⟨w, st₀, t, T', L, h0, X', hL, e1, e2, ⟨hv, hh⟩, st⟩ := hr T hT X
  cases hv
  have hLn : L = [] := by
    cases L with
    | nil => rfl
    | cons q _ => exact (hL q List.mem_cons_self).elim
  subst hLn
  rw [List.append_nil] at X'
  obtain ⟨t2, a1, b1⟩ := kk T' (by rw [e1, hh, h0]) X'
  exact ⟨t2, st t2 a1, b1⟩
end PU
/-- the start of a method that reads the cells ws -/
abbrev pu_P (D : va_G) (cl : List vw_C) (tys : List (ClassId × FieldType)) (ws : va_W) : State → Prop := fun U => va_P D cl ws U.heap ∧ va_K D cl tys U
theorem pu_blind {av : List Value} {D : va_G} {cl : List vw_C} {tys : List (ClassId × FieldType)} {ws : va_W} : FrameBlind (va_Pc av (pu_P D cl tys ws)) := fun a U g mk q => by
  obtain ⟨q0, qP, qK⟩ := q
  exact ⟨q0, qP, va_K.moved (u := U) (U := U.calling g mk a) (Vm.Alike.refl U.vm) qK⟩
theorem pu_pre {s : State} {H : Heap} {b : Nat} {As : List Value} {D : va_G} {cl : List vw_C} {tys : List (ClassId × FieldType)} {ws : va_W} {ci q0 : Nat} {q : vw_C} {fs : List Value} (hP : va_P D cl ws H) (hK : va_K D cl tys s) (hc : cl[ci]? = some q) (he : ws[q0]? = some (b, .inr (ci, fs))) : PreV s H q.1 b (va_Pc (.ref b :: As) (pu_P D cl tys ws)) As :=
  ⟨pu_blind, va_recv hK hP hc he, fun U hU hW => ⟨rfl, by rw [hU]; exact hP, va_K.moved hW.alike hK⟩⟩
theorem pu_preS {s : State} {H : Heap} {As : List Value} : PreS s H (va_Pc As (fun _ => True)) As :=
  ⟨fun a U g mk q => ⟨q.1, trivial⟩, fun U _ _ => ⟨rfl, trivial⟩⟩
/-! numbers -/
def sp_in (v a b : Int32) : Int32 := if a ≤ v ∧ v ≤ b then 1 else 0
theorem sp_in_0 {v a b : Int32} : sp_in v a b = 0 ↔ ¬ (a ≤ v ∧ v ≤ b) := by
  unfold sp_in
  by_cases h : a ≤ v ∧ v ≤ b
  · rw [if_pos h]; exact ⟨fun z => absurd z (by decide), fun z => absurd h z⟩
  · rw [if_neg h]; exact ⟨fun _ => h, fun _ => rfl⟩
theorem sp_in_1 {v a b : Int32} (h : ¬ sp_in v a b = 0) : a ≤ v ∧ v ≤ b := Classical.byContradiction fun z => h (sp_in_0.mpr z)
theorem sp_narrow (v a b : Int32) : narrow .boolean (.int (sp_in v a b)) = .int (sp_in v a b) := by
  unfold sp_in
  by_cases h : a ≤ v ∧ v ≤ b
  · rw [if_pos h]; rfl
  · rw [if_neg h]; rfl
theorem sp_le {a b : Int32} : a ≤ b ↔ a.toInt ≤ b.toInt := Int32.le_iff_toInt_le
theorem sp_lt {a b : Int32} : a < b ↔ a.toInt < b.toInt := Int32.lt_iff_toInt_lt
theorem sp_none (p : Int32) : sp_in p 0 (-1) = 0 := by
  rw [sp_in_0, sp_le, sp_le, show (0 : Int32).toInt = 0 from rfl, show (-1 : Int32).toInt = -1 from rfl]
  omega
theorem sw_n {x n : Int32} (h : ¬ x = n) {k : Int} (hk : n.toInt = k) : ¬ x.toInt = k := fun z => h (Int32.toInt_inj.mp (z.trans hk.symm))
/-- an index by the two tests ahead of it -/
theorem vb_in {x N : Int32} {n : Nat} (h0 : ¬ x < 0) (h : ¬ N ≤ x) (hN : N.toInt = n) : vp_in x n := by
  rw [vp_in_iff]
  rw [sp_lt] at h0
  rw [sp_le] at h
  rw [show (0 : Int32).toInt = 0 from rfl] at h0
  omega
/-! the cells of a new object, class and reference -/
abbrev nn_ : Nat → Option Nat := fun _ => none
abbrev fx_O (q : Nat → Nat) : List Value := [.ref (q 1), .ref (q 2), .ref (q 3), .ref (q 4), .ref (q 5), .ref (q 6), .ref (q 7), .ref (q 8), .int 0, .int 0, .int 0, .int 0, .int 0, .int 0]
abbrev fx_W (h0 : Nat) (q : Nat → Nat) (cy : Nat → ClassId) : va_W := [(h0, .inr (6, fx_O q)), (q 1, .inl (cy 1, 8, .inr (.inr (.inr (.inr nn_))))), (q 2, .inl (cy 2, 12, .inr (.inr (.inr (.inr nn_))))), (q 3, .inl (cy 3, 120, .inr (.inr (.inr (.inr nn_)))))]
abbrev fx_T (cy : Nat → ClassId) : List (ClassId × FieldType) := [(cy 1, .object RX4), (cy 2, .object RX6), (cy 3, .object RX0)]
abbrev fm_O (q : Nat → Nat) : List Value := [.int 0, .int 0, .ref (q 2), .ref (q 3), .ref (q 4), .int 0, .ref (q 6), .ref (q 7), .ref (q 8), .ref (q 9), .ref (q 10), .ref (q 11), .ref (q 12), .int 0, .ref (q 14), .ref (q 15), .ref (q 16), .ref (q 17), .ref (q 18), .ref (q 19), .ref (q 20), .ref (q 21), .ref (q 22), .ref (q 23), .ref (q 24), .int 0, .ref (q 26), .ref (q 27), .ref (q 28), .ref (q 29), .ref (q 30), .ref (q 31), .ref (q 32), .ref (q 33), .ref (q 34), .int 0, .ref (q 36)]
abbrev zz_ : Nat → Int32 := fun _ => 0
abbrev fm_W (h0 : Nat) (q : Nat → Nat) (cI : ClassId) : va_W := [(h0, .inr (7, fm_O q)), (q 34, .inl (cI, 36, .inl zz_)), (q 12, .inl (cI, 6, .inl zz_)), (q 33, .inl (cI, 126, .inl zz_))]
abbrev fm_T (cI : ClassId) : List (ClassId × FieldType) := [(cI, .int)]
/-- the answers of the calls that change a new object, or read more than a number of it -/
def sp_load (w n : Int32) : Int32 := if sp_in w 0 5 = 0 then 0 else if sp_in n 0 500 = 0 then 0 else 1
def sp_want (w k n : Int32) : Int32 := if sp_in w 0 5 = 0 then 0 else if sp_in k 0 20 = 0 then 0 else if sp_in n 0 1000 = 0 then 0 else 1
def sp_go (n : Int32) : Int32 := if sp_in n 0 400 = 0 then -1 else n
def sp_count (w k : Int32) : Int32 := if sp_in k 0 5 = 0 then -1 else if w = -1 then 0 else if sp_in w 0 5 = 0 then -1 else 0
end
section
set_option maxHeartbeats 4000000 in
set_option maxRecDepth 100000 in
theorem c_X7_isWithin (l : Launch) (a0 a1 a2 : Int32) : Met l yX7_isWithin wsX7_isWithin ({ frames := 0, cells := 0, slots := 0, locals := 0 }) (va_Pc [.int a0, .int a1, .int a2] (fun _ => True)) (pu_Q (.int (sp_in a0 a1 a2))) 0 0 pu_F := by
  refine Met.ofW (cc := cX7_isWithin) (maxL := 3) (ret := (some .boolean)) (by decide) rfl ?_
  intro p e s m args below meth c s₁ B hml hv
  obtain ⟨rfl, -⟩ := hv
  have hx := B.exec
  have hb := B.bytes
  have hr := B.returns
  have hts := atoms_spec (ws := wsX7_isWithin) B.pre
  have hown : s.vm.findClass RX7 = some m.cls := findClass_of_methodNamed B.named
  have hlocks := B.notSynchronized
  have hl := lv_entry ([.int a0, .int a1, .int a2]) (n := 3) (Nat.le_of_ble_eq_true rfl)
  rw [lg_entry_eq]
  generalize (lg_sl ([.int a0, .int a1, .int a2]) ++ List.replicate (3 - (lg_sl ([.int a0, .int a1, .int a2])).length) Slot.unset).toArray = ls at hl ⊢
  have hl : lv_has ls 3 [(0, .int a0), (1, .int a1), (2, .int a2)] := hl
  refine lv_iload_n hx hb dX7_isWithin_0 rfl (lv_at hl 0 rfl) ?_
  refine lv_iload_n hx hb dX7_isWithin_1 rfl (lv_at hl 1 rfl) ?_
  refine lv_icmp_lt (tgt := 14) hx hb dX7_isWithin_2 (by decide) (fun h_1 => ?_) (fun h_1 => ?_)
  · skip
    refine lv_iconst (v := 0) hx hb dX7_isWithin_14 (by decide) ?_
    exact W.zret (v := 0) hx hb hr rfl (fun t ht hW => ⟨congrArg (fun z => Outcome.returned (some (Value.int z))) (by unfold sp_in; simp only [sp_le, sp_lt, show (0 : Int32).toInt = 0 from rfl, show (5 : Int32).toInt = 5 from rfl, show (6 : Int32).toInt = 6 from rfl, show (11 : Int32).toInt = 11 from rfl, show (12 : Int32).toInt = 12 from rfl] at h_1 ⊢; first | (rw [if_pos (by omega)]; done) | (rw [if_neg (by omega)]; done)), ht⟩) (fun q h => by cases h) dX7_isWithin_15
  · skip
    refine lv_iload_n hx hb dX7_isWithin_5 rfl (lv_at hl 0 rfl) ?_
    refine lv_iload_n hx hb dX7_isWithin_6 rfl (lv_at hl 2 rfl) ?_
    refine lv_icmp_gt (tgt := 14) hx hb dX7_isWithin_7 (by decide) (fun h_2 => ?_) (fun h_2 => ?_)
    · skip
      refine lv_iconst (v := 0) hx hb dX7_isWithin_14 (by decide) ?_
      exact W.zret (v := 0) hx hb hr rfl (fun t ht hW => ⟨congrArg (fun z => Outcome.returned (some (Value.int z))) (by unfold sp_in; simp only [sp_le, sp_lt, show (0 : Int32).toInt = 0 from rfl, show (5 : Int32).toInt = 5 from rfl, show (6 : Int32).toInt = 6 from rfl, show (11 : Int32).toInt = 11 from rfl, show (12 : Int32).toInt = 12 from rfl] at h_1 h_2 ⊢; first | (rw [if_pos (by omega)]; done) | (rw [if_neg (by omega)]; done)), ht⟩) (fun q h => by cases h) dX7_isWithin_15
    · skip
      refine lv_iconst (v := 1) hx hb dX7_isWithin_10 (by decide) ?_
      refine lv_goto (tgt := 15) hx hb dX7_isWithin_11 (by decide) ?_
      exact W.zret (v := 1) hx hb hr rfl (fun t ht hW => ⟨congrArg (fun z => Outcome.returned (some (Value.int z))) (by unfold sp_in; simp only [sp_le, sp_lt, show (0 : Int32).toInt = 0 from rfl, show (5 : Int32).toInt = 5 from rfl, show (6 : Int32).toInt = 6 from rfl, show (11 : Int32).toInt = 11 from rfl, show (12 : Int32).toInt = 12 from rfl] at h_1 h_2 ⊢; first | (rw [if_pos (by omega)]; done) | (rw [if_neg (by omega)]; done)), ht⟩) (fun q h => by cases h) dX7_isWithin_15

set_option maxHeartbeats 4000000 in
set_option maxRecDepth 100000 in
theorem c_X7_isWare (l : Launch) (a0 : Int32) : Met l yX7_isWare wsX7_isWare ({ frames := 0, cells := 0, slots := 0, locals := 0 }) (va_Pc [.int a0] (fun _ => True)) (pu_Q (.int (sp_in a0 0 5))) 0 0 pu_F := by
  refine Met.ofW (cc := cX7_isWare) (maxL := 1) (ret := (some .boolean)) (by decide) rfl ?_
  intro p e s m args below meth c s₁ B hml hv
  obtain ⟨rfl, -⟩ := hv
  have hx := B.exec
  have hb := B.bytes
  have hr := B.returns
  have hts := atoms_spec (ws := wsX7_isWare) B.pre
  have hown : s.vm.findClass RX7 = some m.cls := findClass_of_methodNamed B.named
  have hlocks := B.notSynchronized
  have hl := lv_entry ([.int a0]) (n := 1) (Nat.le_of_ble_eq_true rfl)
  rw [lg_entry_eq]
  generalize (lg_sl ([.int a0]) ++ List.replicate (1 - (lg_sl ([.int a0])).length) Slot.unset).toArray = ls at hl ⊢
  have hl : lv_has ls 1 [(0, .int a0)] := hl
  refine lv_iload_n hx hb dX7_isWare_0 rfl (lv_at hl 0 rfl) ?_
  refine lv_if_lt (tgt := 14) hx hb dX7_isWare_1 (by decide) (fun h_1 => ?_) (fun h_1 => ?_)
  · skip
    refine lv_iconst (v := 0) hx hb dX7_isWare_14 (by decide) ?_
    exact W.zret (v := 0) hx hb hr rfl (fun t ht hW => ⟨congrArg (fun z => Outcome.returned (some (Value.int z))) (by unfold sp_in; simp only [sp_le, sp_lt, show (0 : Int32).toInt = 0 from rfl, show (5 : Int32).toInt = 5 from rfl, show (6 : Int32).toInt = 6 from rfl, show (11 : Int32).toInt = 11 from rfl, show (12 : Int32).toInt = 12 from rfl] at h_1 ⊢; first | (rw [if_pos (by omega)]; done) | (rw [if_neg (by omega)]; done)), ht⟩) (fun q h => by cases h) dX7_isWare_15
  · skip
    refine lv_iload_n hx hb dX7_isWare_4 rfl (lv_at hl 0 rfl) ?_
    refine lv_bipush (v := 6) hx hb dX7_isWare_5 (by decide) ?_
    refine lv_icmp_ge (tgt := 14) hx hb dX7_isWare_7 (by decide) (fun h_2 => ?_) (fun h_2 => ?_)
    · skip
      refine lv_iconst (v := 0) hx hb dX7_isWare_14 (by decide) ?_
      exact W.zret (v := 0) hx hb hr rfl (fun t ht hW => ⟨congrArg (fun z => Outcome.returned (some (Value.int z))) (by unfold sp_in; simp only [sp_le, sp_lt, show (0 : Int32).toInt = 0 from rfl, show (5 : Int32).toInt = 5 from rfl, show (6 : Int32).toInt = 6 from rfl, show (11 : Int32).toInt = 11 from rfl, show (12 : Int32).toInt = 12 from rfl] at h_1 h_2 ⊢; first | (rw [if_pos (by omega)]; done) | (rw [if_neg (by omega)]; done)), ht⟩) (fun q h => by cases h) dX7_isWare_15
    · skip
      refine lv_iconst (v := 1) hx hb dX7_isWare_10 (by decide) ?_
      refine lv_goto (tgt := 15) hx hb dX7_isWare_11 (by decide) ?_
      exact W.zret (v := 1) hx hb hr rfl (fun t ht hW => ⟨congrArg (fun z => Outcome.returned (some (Value.int z))) (by unfold sp_in; simp only [sp_le, sp_lt, show (0 : Int32).toInt = 0 from rfl, show (5 : Int32).toInt = 5 from rfl, show (6 : Int32).toInt = 6 from rfl, show (11 : Int32).toInt = 11 from rfl, show (12 : Int32).toInt = 12 from rfl] at h_1 h_2 ⊢; first | (rw [if_pos (by omega)]; done) | (rw [if_neg (by omega)]; done)), ht⟩) (fun q h => by cases h) dX7_isWare_15

set_option maxHeartbeats 4000000 in
set_option maxRecDepth 100000 in
theorem c_X7_isHunter (l : Launch) (a0 : Int32) : Met l yX7_isHunter wsX7_isHunter ({ frames := 0, cells := 0, slots := 0, locals := 0 }) (va_Pc [.int a0] (fun _ => True)) (pu_Q (.int (sp_in a0 0 11))) 0 0 pu_F := by
  refine Met.ofW (cc := cX7_isHunter) (maxL := 1) (ret := (some .boolean)) (by decide) rfl ?_
  intro p e s m args below meth c s₁ B hml hv
  obtain ⟨rfl, -⟩ := hv
  have hx := B.exec
  have hb := B.bytes
  have hr := B.returns
  have hts := atoms_spec (ws := wsX7_isHunter) B.pre
  have hown : s.vm.findClass RX7 = some m.cls := findClass_of_methodNamed B.named
  have hlocks := B.notSynchronized
  have hl := lv_entry ([.int a0]) (n := 1) (Nat.le_of_ble_eq_true rfl)
  rw [lg_entry_eq]
  generalize (lg_sl ([.int a0]) ++ List.replicate (1 - (lg_sl ([.int a0])).length) Slot.unset).toArray = ls at hl ⊢
  have hl : lv_has ls 1 [(0, .int a0)] := hl
  refine lv_iload_n hx hb dX7_isHunter_0 rfl (lv_at hl 0 rfl) ?_
  refine lv_if_lt (tgt := 14) hx hb dX7_isHunter_1 (by decide) (fun h_1 => ?_) (fun h_1 => ?_)
  · skip
    refine lv_iconst (v := 0) hx hb dX7_isHunter_14 (by decide) ?_
    exact W.zret (v := 0) hx hb hr rfl (fun t ht hW => ⟨congrArg (fun z => Outcome.returned (some (Value.int z))) (by unfold sp_in; simp only [sp_le, sp_lt, show (0 : Int32).toInt = 0 from rfl, show (5 : Int32).toInt = 5 from rfl, show (6 : Int32).toInt = 6 from rfl, show (11 : Int32).toInt = 11 from rfl, show (12 : Int32).toInt = 12 from rfl] at h_1 ⊢; first | (rw [if_pos (by omega)]; done) | (rw [if_neg (by omega)]; done)), ht⟩) (fun q h => by cases h) dX7_isHunter_15
  · skip
    refine lv_iload_n hx hb dX7_isHunter_4 rfl (lv_at hl 0 rfl) ?_
    refine lv_bipush (v := 12) hx hb dX7_isHunter_5 (by decide) ?_
    refine lv_icmp_ge (tgt := 14) hx hb dX7_isHunter_7 (by decide) (fun h_2 => ?_) (fun h_2 => ?_)
    · skip
      refine lv_iconst (v := 0) hx hb dX7_isHunter_14 (by decide) ?_
      exact W.zret (v := 0) hx hb hr rfl (fun t ht hW => ⟨congrArg (fun z => Outcome.returned (some (Value.int z))) (by unfold sp_in; simp only [sp_le, sp_lt, show (0 : Int32).toInt = 0 from rfl, show (5 : Int32).toInt = 5 from rfl, show (6 : Int32).toInt = 6 from rfl, show (11 : Int32).toInt = 11 from rfl, show (12 : Int32).toInt = 12 from rfl] at h_1 h_2 ⊢; first | (rw [if_pos (by omega)]; done) | (rw [if_neg (by omega)]; done)), ht⟩) (fun q h => by cases h) dX7_isHunter_15
    · skip
      refine lv_iconst (v := 1) hx hb dX7_isHunter_10 (by decide) ?_
      refine lv_goto (tgt := 15) hx hb dX7_isHunter_11 (by decide) ?_
      exact W.zret (v := 1) hx hb hr rfl (fun t ht hW => ⟨congrArg (fun z => Outcome.returned (some (Value.int z))) (by unfold sp_in; simp only [sp_le, sp_lt, show (0 : Int32).toInt = 0 from rfl, show (5 : Int32).toInt = 5 from rfl, show (6 : Int32).toInt = 6 from rfl, show (11 : Int32).toInt = 11 from rfl, show (12 : Int32).toInt = 12 from rfl] at h_1 h_2 ⊢; first | (rw [if_pos (by omega)]; done) | (rw [if_neg (by omega)]; done)), ht⟩) (fun q h => by cases h) dX7_isHunter_15

set_option maxHeartbeats 4000000 in
set_option maxRecDepth 100000 in
theorem c_X8_in (l : Launch) (a0 a1 a2 : Int32) : Met l yX8_in wsX8_in ({ frames := 0, cells := 0, slots := 0, locals := 0 }) (va_Pc [.int a0, .int a1, .int a2] (fun _ => True)) (pu_Q (.int (sp_in a0 a1 a2))) 0 0 pu_F := by
  refine Met.ofW (cc := cX8_in) (maxL := 3) (ret := (some .boolean)) (by decide) rfl ?_
  intro p e s m args below meth c s₁ B hml hv
  obtain ⟨rfl, -⟩ := hv
  have hx := B.exec
  have hb := B.bytes
  have hr := B.returns
  have hts := atoms_spec (ws := wsX8_in) B.pre
  have hown : s.vm.findClass RX8 = some m.cls := findClass_of_methodNamed B.named
  have hlocks := B.notSynchronized
  have hl := lv_entry ([.int a0, .int a1, .int a2]) (n := 3) (Nat.le_of_ble_eq_true rfl)
  rw [lg_entry_eq]
  generalize (lg_sl ([.int a0, .int a1, .int a2]) ++ List.replicate (3 - (lg_sl ([.int a0, .int a1, .int a2])).length) Slot.unset).toArray = ls at hl ⊢
  have hl : lv_has ls 3 [(0, .int a0), (1, .int a1), (2, .int a2)] := hl
  refine lv_iload_n hx hb dX8_in_0 rfl (lv_at hl 0 rfl) ?_
  refine lv_iload_n hx hb dX8_in_1 rfl (lv_at hl 1 rfl) ?_
  refine lv_icmp_lt (tgt := 14) hx hb dX8_in_2 (by decide) (fun h_1 => ?_) (fun h_1 => ?_)
  · skip
    refine lv_iconst (v := 0) hx hb dX8_in_14 (by decide) ?_
    exact W.zret (v := 0) hx hb hr rfl (fun t ht hW => ⟨congrArg (fun z => Outcome.returned (some (Value.int z))) (by unfold sp_in; simp only [sp_le, sp_lt, show (0 : Int32).toInt = 0 from rfl, show (5 : Int32).toInt = 5 from rfl, show (6 : Int32).toInt = 6 from rfl, show (11 : Int32).toInt = 11 from rfl, show (12 : Int32).toInt = 12 from rfl] at h_1 ⊢; first | (rw [if_pos (by omega)]; done) | (rw [if_neg (by omega)]; done)), ht⟩) (fun q h => by cases h) dX8_in_15
  · skip
    refine lv_iload_n hx hb dX8_in_5 rfl (lv_at hl 0 rfl) ?_
    refine lv_iload_n hx hb dX8_in_6 rfl (lv_at hl 2 rfl) ?_
    refine lv_icmp_gt (tgt := 14) hx hb dX8_in_7 (by decide) (fun h_2 => ?_) (fun h_2 => ?_)
    · skip
      refine lv_iconst (v := 0) hx hb dX8_in_14 (by decide) ?_
      exact W.zret (v := 0) hx hb hr rfl (fun t ht hW => ⟨congrArg (fun z => Outcome.returned (some (Value.int z))) (by unfold sp_in; simp only [sp_le, sp_lt, show (0 : Int32).toInt = 0 from rfl, show (5 : Int32).toInt = 5 from rfl, show (6 : Int32).toInt = 6 from rfl, show (11 : Int32).toInt = 11 from rfl, show (12 : Int32).toInt = 12 from rfl] at h_1 h_2 ⊢; first | (rw [if_pos (by omega)]; done) | (rw [if_neg (by omega)]; done)), ht⟩) (fun q h => by cases h) dX8_in_15
    · skip
      refine lv_iconst (v := 1) hx hb dX8_in_10 (by decide) ?_
      refine lv_goto (tgt := 15) hx hb dX8_in_11 (by decide) ?_
      exact W.zret (v := 1) hx hb hr rfl (fun t ht hW => ⟨congrArg (fun z => Outcome.returned (some (Value.int z))) (by unfold sp_in; simp only [sp_le, sp_lt, show (0 : Int32).toInt = 0 from rfl, show (5 : Int32).toInt = 5 from rfl, show (6 : Int32).toInt = 6 from rfl, show (11 : Int32).toInt = 11 from rfl, show (12 : Int32).toInt = 12 from rfl] at h_1 h_2 ⊢; first | (rw [if_pos (by omega)]; done) | (rw [if_neg (by omega)]; done)), ht⟩) (fun q h => by cases h) dX8_in_15

set_option maxHeartbeats 4000000 in
set_option maxRecDepth 100000 in
theorem c_X8_isWare (l : Launch) (a0 : Int32) : Met l yX8_isWare wsX8_isWare ({ frames := 1, cells := 0, slots := 0, locals := 22 }) (va_Pc [.int a0] (fun _ => True)) (pu_Q (.int (sp_in a0 0 5))) 0 0 pu_F := by
  refine Met.ofW (cc := cX8_isWare) (maxL := 1) (ret := (some .boolean)) (by decide) rfl ?_
  intro p e s m args below meth c s₁ B hml hv
  obtain ⟨rfl, -⟩ := hv
  have hx := B.exec
  have hb := B.bytes
  have hr := B.returns
  have hts := atoms_spec (ws := wsX8_isWare) B.pre
  have hown : s.vm.findClass RX8 = some m.cls := findClass_of_methodNamed B.named
  have hlocks := B.notSynchronized
  have hl := lv_entry ([.int a0]) (n := 1) (Nat.le_of_ble_eq_true rfl)
  rw [lg_entry_eq]
  generalize (lg_sl ([.int a0]) ++ List.replicate (1 - (lg_sl ([.int a0])).length) Slot.unset).toArray = ls at hl ⊢
  have hl : lv_has ls 1 [(0, .int a0)] := hl
  refine lv_iload_n hx hb dX8_isWare_0 rfl (lv_at hl 0 rfl) ?_
  refine lv_iconst (v := 0) hx hb dX8_isWare_1 (by decide) ?_
  refine lv_iconst (v := 5) hx hb dX8_isWare_2 (by decide) ?_
  refine pu_call (va_runS (As := [.int a0, .int 0, .int 5]) (rest := []) ⟨hx, hb, hml, hown, hts⟩ (c_X8_in l a0 0 5) (va_cwS 3 hts gX8_isWare_X8_in rfl rfl rfl (by decide +kernel) ⟨Nat.le_of_ble_eq_true rfl, Nat.le_of_ble_eq_true rfl⟩) pu_preS rfl rfl hl.1 rfl (lv_room (Nat.le_of_ble_eq_true rfl)) dX8_isWare_3 ⟨Nat.zero_le _, Nat.zero_le _⟩) ?_
  exact W.zret (v := (sp_in a0 0 5)) hx hb hr (sp_narrow _ _ _) (fun t ht hW => ⟨rfl, ht⟩) (fun q h => by cases h) dX8_isWare_6
end
section
/-! rows for making: arrays whose class is known, arrays of arrays, what a made array of references is over -/
theorem va_AOA.moved {ty : FieldType} {u U : State} (hvm : u.vm.Alike U.vm) (h : va_AOA ty u) : va_AOA ty U := by
  unfold va_AOA Cond.before Cond.holds at h ⊢
  simp only [Cond.value, beq_iff_eq] at h ⊢
  cases hc : u.vm.findClass (FieldType.array ty).toString with
  | none => simp [hc] at h
  | some comp =>
    have f1 : U.vm.findClass (FieldType.array ty).toString = some comp := by rw [hvm.findClass]; exact hc
    simp only [hc, Option.bind_some, Option.bind_eq_some_iff, Option.map_eq_some_iff] at h
    obtain ⟨c, hi, k, hk, hb⟩ := h
    obtain ⟨k', hk', he⟩ := hvm.2.2 _ _ hk
    have hi' : (U.vm.classes.findIdx? fun (x : Class) => match x.kind with | .array component _ => component == comp | _ => false) = some c := by
      have e1 := va_idx_bare U.vm comp
      have e2 := va_idx_bare u.vm comp
      first | rw [hvm.bare_eq] at e1 | rw [← hvm.bare_eq] at e1
      exact e1.symm.trans (e2.trans hi)
    simp only [f1, Option.bind_some, Option.bind_eq_some_iff, Option.map_eq_some_iff]
    refine ⟨c, hi', k', hk', ?_⟩
    have hkd : k'.kind = k.kind := by rw [he]
    rw [hkd]
    cases hkind : k.kind with
    | array component ty2 =>
      rw [hkind] at hb
      simp only [hvm.findClass] at hb ⊢
      exact hb
    | _ => rw [hkind] at hb; exact hb
theorem va_K_int {D : va_G} {cl : List vw_C} {tys : List (ClassId × FieldType)} {s : State} {a b : ClassId} (h : va_K D cl tys s) (i j : Nat) (hi : tys[i]? = some (a, .int)) (hj : tys[j]? = some (b, .int)) : a = b :=
  Option.some.inj ((h.2 i _ hi).2.symm.trans (h.2 j _ hj).2)
section MK
variable {p : Program} {l : Launch} {e : Env} {R : Room} {s : State} {m : MethodId} {args : Array Value} {below : List Frame} {meth : Method} {c : Code} {H : Heap} {locs : List Loc} {cells slots : Nat} {Q : State → Prop}
variable {cc : ByteArray} {pc : Nat} {ls : Array Slot} {rest : List Value} {D : va_G} {cl : List vw_C} {A : Nat → Prop} {a : Nat} {tys : List (ClassId × FieldType)} {ws : va_W} {H0 : Heap}
/-- new int[n], where the class of int arrays is known -/
theorem ia_new (hexec : p.tables.exec = Jvm.exec) (hb : c.code = cc) (harr : (Cond.arrayClass .int).before args s = true) (hK : va_K D cl tys s) (hP : va_P D cl ws H) (hD : va_D A ws) (hS : va_S A H0 H locs) (hA : ∀ q, H0.size ≤ q → A q) (t0 : Nat) {cI : ClassId} (ht : tys[t0]? = some (cI, .int))
    {n : Int32} {N' : Nat} (hn : ¬ n < 0) (hN : n.toNatClampNeg = N') (hbytes : N' * 4 ≤ 536870912) (hcells : cells + 1 ≤ R.cells) (hslots : slots + N' ≤ R.slots) (hdg : decode cc pc = .ok (.newarray .int, 2))
    (kk : ∀ (q : Nat) (H1 : Heap), va_P D cl (ws ++ [(q, .inl (cI, N', .inl zz_))]) H1 → va_D A (ws ++ [(q, .inl (cI, N', .inl zz_))]) → va_S A H0 H1 locs →
      W p l e R s m args below meth c H1 locs (cells + 1) (slots + N') Q (F0 m (pc + 2) ls (.ref q :: rest))) : W p l e R s m args below meth c H locs cells slots Q (F0 m pc ls (.int n :: rest)) := by
  refine va_newa (atype := .int) (ty := .int) (a0 := (N', .inl zz_)) hexec hb harr rfl hK hP hD hS hA (fun cA => by rw [vp_cell_i] <;> rfl) hn hN hbytes hcells hslots hdg (fun q cA H1 hK1 hP1 hD1 hS1 => ?_)
  have hlt : t0 < tys.length := (List.getElem?_eq_some_iff.mp ht).1
  have hc : cA = cI := va_K_int hK1 tys.length t0 (by rw [List.getElem?_append_right (Nat.le_refl _), Nat.sub_self]; rfl) (by rw [List.getElem?_append_left hlt]; exact ht)
  subst hc
  exact kk q H1 hP1 hD1 hS1
/-- new int[n][k] -/
theorem mm_new (hexec : p.tables.exec = Jvm.exec) (hb : c.code = cc) {own : String} {index : Nat} (hown : s.vm.findClass own = some m.cls) (hclink : (Cond.classLink own index "[[I").before args s = true) (hover : va_AOA .int s) (harr : (Cond.arrayClass .int).before args s = true)
    (hK : va_K D cl tys s) (hP : va_P D cl ws H) (hD : va_D A ws) (hS : va_S A H0 H locs) (hA : ∀ q, H0.size ≤ q → A q) (t0 : Nat) {cI : ClassId} (ht : tys[t0]? = some (cI, .int)) {n k : Int32} {N' K' : Nat} (hn : ¬ n < 0) (hk : ¬ k < 0) (hN : n.toNatClampNeg = N') (hM : k.toNatClampNeg = K')
    (hb1 : N' * 4 ≤ 536870912) (hb2 : K' * 4 ≤ 536870912) (hb3 : K' ≤ 536870912) (hcells : cells + (1 + N') ≤ R.cells) (hslots : slots + (N' + N' * K') ≤ R.slots) (hz : ∀ c : ClassId, Jvm.Free.Multi.innerC c K' (.int 0) = vp_cell c (K', .inl zz_)) (hdg : decode cc pc = .ok (.multianewarray index 2, 4))
    (kk : ∀ (q : Nat) (r : Nat → Nat) (cA : ClassId) (H1 : Heap), va_K D cl (tys ++ [(cA, .array .int)]) s →
      va_P D cl ((ws ++ [(q, .inl (cA, N', .inr (.inr (.inr (.inr (fun i => if i < N' then some (r i) else none))))))]) ++ (List.range N').map (fun i => (r i, .inl (cI, K', .inl zz_)))) H1 → va_D A ((ws ++ [(q, .inl (cA, N', .inr (.inr (.inr (.inr (fun i => if i < N' then some (r i) else none))))))]) ++ (List.range N').map (fun i => (r i, .inl (cI, K', .inl zz_)))) → va_S A H0 H1 locs →
      W p l e R s m args below meth c H1 locs (cells + 1 + N') (slots + N' + N' * K') Q (F0 m (pc + 4) ls (.ref q :: rest))) : W p l e R s m args below meth c H locs cells slots Q (F0 m pc ls (.int k :: .int n :: rest)) := by
  have e0 : ws ++ va_pl [] (fun _ => (.inl (cI, K', .inl zz_) : va_E)) = ws := List.append_nil ws
  have hcy : s.vm.findClass (FieldType.array .int).toString = some cI := (hK.2 t0 _ ht).2
  refine va_mna (X := ws) (L := []) (f := fun _ => (.inl (cI, K', .inl zz_) : va_E)) (ty := .int) (z := (K', .inl zz_)) hexec hb hown hclink hover harr hcy hK (by rw [e0]; exact hP) (by rw [e0]; exact hD) hS hA hn hk hN hM hb1 hb2 hb3 rfl rfl hcells hslots hz hdg (fun q r cA H1 _ _ hK1 hP1 hD1 hS1 => ?_)
  rw [← vr_rows (L := []) (fun a _ h => absurd h List.not_mem_nil)] at hP1 hD1
  have e1 : va_pl [] (fun _ => (.inl (cI, K', .inl zz_) : va_E)) ++ ((List.range N').map r).map (fun a => (a, (.inl (cI, K', .inl zz_) : va_E))) = (List.range N').map (fun i => (r i, .inl (cI, K', .inl zz_))) := by
    show [] ++ _ = _
    rw [List.nil_append, List.map_map]
    rfl
  rw [e1] at hP1 hD1
  exact kk q r cA H1 hK1 hP1 hD1 hS1
/-- a row of an array of arrays -/
theorem va_ald2 (hexec : p.tables.exec = Jvm.exec) (hb : c.code = cc) (hK : va_K D cl tys s) (hP : va_P D cl ws H) (q0 t0 : Nat) {cA : ClassId} {ty : FieldType} {n : Nat} {f : Nat → Option Nat} (ha : ws[q0]? = some (a, .inl (cA, n, .inr (.inr (.inr (.inr f)))))) (ht : tys[t0]? = some (cA, .array ty)) {i : Int32} (hin : vp_in i n) {b : Nat} (hv : f i.toNatClampNeg = some b) (hdg : decode cc pc = .ok (.aaload, 1))
    (kk : W p l e R s m args below meth c H locs cells slots Q (F0 m (pc + 1) ls (.ref b :: rest))) : W p l e R s m args below meth c H locs cells slots Q (F0 m pc ls (.int i :: .ref a :: rest)) := by
  have hlt : i.toNatClampNeg < n := Nat.not_le.mp fun q => hin (Or.inr q)
  exact W.aald (v := .ref b) (ty := .array ty) hexec hb (hP q0 _ ha) ((hK.2 t0 _ ht).1 n (fun j => va_rf (f j))) rfl (fun q => by cases q) (by show ¬ (i < 0 ∨ (arrV _ _ _).slots.size ≤ _); rw [arrV_size]; exact hin) (by show (arrV _ _ _).slots[_]? = _; rw [arrV_read _ _ hlt, hv]; rfl) rfl rfl hdg kk
end MK
end
section
/-! Arrays.fill(int[], int) -/
theorem va_D1 {A : Nat → Prop} {a : Nat} {e : va_E} (h : A a) : va_D A [(a, e)] := by
  refine ⟨fun i j p q hi hj _ => ?_, fun k q hk => ?_⟩
  · have h1 : i < 1 := (List.getElem?_eq_some_iff.mp hi).1
    have h2 : j < 1 := (List.getElem?_eq_some_iff.mp hj).1
    omega
  · have h1 : k < 1 := (List.getElem?_eq_some_iff.mp hk).1
    rw [show k = 0 by omega] at hk
    cases hk
    exact h
theorem mm_row (c : ClassId) (n : Nat) : Jvm.Free.Multi.innerC c n (.int 0) = vp_cell c (n, .inl zz_) := by
  first
    | rfl
    | (show ({ cls := c, slots := Array.replicate n (.int 0), vm := .none } : Cell) = _
       exact arrV_new c n (.int 0))
set_option maxHeartbeats 4000000 in
set_option maxRecDepth 100000 in
theorem c_fill (l : Launch) (dC : Nat → ClassId) (dI : Nat → Nat → Nat) (a : Nat) (cI : ClassId) (n : Nat) (hn : n < 2 ^ 31) (f : Nat → Int32) (v : Int32) : Met l yJ7_fill_53178 wsJ7_fill_53178 ({ frames := 0, cells := 0, slots := 0, locals := 0 }) (va_Pc [.ref a, .int v] (pu_P (dC, dI) vwCl [(cI, .int)] [(a, .inl (cI, n, .inl f))])) (va_Qv (fun g : Nat → Int32 => ∀ j, j < n → g j = v) (fun g t => va_P (dC, dI) vwCl [(a, .inl (cI, n, .inl g))] t.heap) (fun q => q = a)) 0 0 (fun q => q = a) := by
  refine Met.ofW (cc := cJ7_fill_53178) (maxL := 4) (ret := none) (by decide) rfl ?_
  intro p e s m args below meth c s₁ B hml hv
  obtain ⟨rfl, hP, hK⟩ := hv
  have hx := B.exec
  have hb := B.bytes
  have hr := B.returns
  have hlocks := B.notSynchronized
  have hS : va_S (fun q => q = a) s.heap s.heap [] := va_S.rf
  have hl := lv_entry ([.ref a, .int v]) (n := 4) (Nat.le_of_ble_eq_true rfl)
  rw [lg_entry_eq]
  generalize (lg_sl ([.ref a, .int v]) ++ List.replicate (4 - (lg_sl ([.ref a, .int v])).length) Slot.unset).toArray = ls at hl ⊢
  have hl : lv_has ls 4 [(0, .ref a), (1, .int v)] := hl
  have key : ∀ (k i : Nat) (g : Nat → Int32) (H : Heap) (locs : List Loc) (ls : Array Slot), i + k = n → (∀ j, j < i → g j = v) → va_P (dC, dI) vwCl [(a, .inl (cI, n, .inl g))] H → va_S (fun q => q = a) s.heap H locs → lv_has ls 4 [(3, .int (nI n)), (2, .int (nI i)), (0, .ref a), (1, .int v)] →
      W p l e (headSpec wsJ7_fill_53178 ({ frames := 0, cells := 0, slots := 0, locals := 0 })).room s m [.ref a, .int v].toArray below meth c H locs 0 0 (MQ below (va_Qv (fun g : Nat → Int32 => ∀ j, j < n → g j = v) (fun g t => va_P (dC, dI) vwCl [(a, .inl (cI, n, .inl g))] t.heap) (fun q => q = a)) [.ref a, .int v].toArray s 0 0 (fun q => q = a)) (F0 m 5 ls []) := by
    intro k
    induction k with
    | zero =>
      intro i g H locs ls hi hg hP hS hl
      have hi : i = n := by omega
      subst hi
      refine lv_iload_n hx hb dJ7_fill_53178_5 rfl (lv_at hl 1 rfl) ?_
      refine lv_iload_n hx hb dJ7_fill_53178_6 rfl (lv_at hl 0 rfl) ?_
      refine lv_icmp_ge (tgt := 20) hx hb dJ7_fill_53178_7 (by decide) (fun _ => ?_) (fun h => absurd (nI_le (Nat.le_refl _) hn) h)
      exact W.vret hx hb hr (fun t ht hW => ⟨⟨g, rfl, hg, by show va_P (dC, dI) vwCl _ t.heap; rw [ht]; exact hP⟩, hS.F ht⟩) hS.2.2 dJ7_fill_53178_20
    | succ k ih =>
      intro i g H locs ls hi hg hP hS hl
      have hlt : i < n := by omega
      refine lv_iload_n hx hb dJ7_fill_53178_5 rfl (lv_at hl 1 rfl) ?_
      refine lv_iload_n hx hb dJ7_fill_53178_6 rfl (lv_at hl 0 rfl) ?_
      refine lv_icmp_ge (tgt := 20) hx hb dJ7_fill_53178_7 (by decide) (fun h => absurd h (nI_ge hlt hn)) (fun _ => ?_)
      refine lv_aload_n hx hb dJ7_fill_53178_10 rfl (lv_at hl 2 rfl) ?_
      refine lv_iload_n hx hb dJ7_fill_53178_11 rfl (lv_at hl 1 rfl) ?_
      refine lv_iload_n hx hb dJ7_fill_53178_12 rfl (lv_at hl 3 rfl) ?_
      refine va_iast hx hb hK hP (va_D1 (A := fun q => q = a) rfl) hS 0 0 rfl rfl (vp_in_nI hlt hn) dJ7_fill_53178_13 (fun H locs hP hD hS => ?_)
      rw [nI_clamp (Nat.lt_trans hlt hn)] at hP
      have hP : va_P (dC, dI) vwCl [(a, .inl (cI, n, .inl (upd g i v)))] H := hP
      refine lv_iinc (v := nI (i + 1)) (lv' := [(2, .int (nI (i + 1))), (3, .int (nI n)), (0, .ref a), (1, .int v)]) hx hb dJ7_fill_53178_14 hl (k := 1) rfl (show nI i + 1 = nI (i + 1) from nI_1 i) (by decide) rfl (fun ls hl => ?_)
      refine lv_goto (tgt := 5) hx hb dJ7_fill_53178_17 (by decide) ?_
      refine ih (i + 1) (upd g i v) H locs ls (by omega) (fun j hj => ?_) hP hS (lv_sub hl [1, 0, 2, 3] rfl)
      by_cases hji : j = i
      · rw [hji]; exact pk_us
      · rw [pk_un hji]; exact hg j (by omega)
  refine lv_iconst (v := 0) hx hb dJ7_fill_53178_0 (by decide) ?_
  refine lv_istore_n (lv' := [(2, .int 0), (0, .ref a), (1, .int v)]) hx hb dJ7_fill_53178_1 rfl hl (by decide) rfl (fun ls hl => ?_)
  refine lv_aload_n hx hb dJ7_fill_53178_2 rfl (lv_at hl 1 rfl) ?_
  refine va_alen (v := nI n) hx hb hK hP 0 0 rfl rfl rfl dJ7_fill_53178_3 ?_
  refine lv_istore_n (lv' := [(3, .int (nI n)), (2, .int 0), (0, .ref a), (1, .int v)]) hx hb dJ7_fill_53178_4 rfl hl (by decide) rfl (fun ls hl => ?_)
  exact key n 0 f s.heap [] ls (by omega) (fun j hj => absurd hj (Nat.not_lt_zero j)) hP hS hl
end
section
/-! a store with all other cells kept, and what stays apart -/
section IS
variable {p : Program} {l : Launch} {e : Env} {R : Room} {s : State} {m : MethodId} {args : Array Value} {below : List Frame} {meth : Method} {c : Code} {H : Heap} {locs : List Loc} {cells slots : Nat} {Q : State → Prop}
variable {cc : ByteArray} {pc : Nat} {ls : Array Slot} {rest : List Value} {D : va_G} {cl : List vw_C} {A : Nat → Prop} {a : Nat} {tys : List (ClassId × FieldType)} {H0 : Heap}
theorem ia_st (hexec : p.tables.exec = Jvm.exec) (hb : c.code = cc) (hK : va_K D cl tys s) {cA : ClassId} {n : Nat} {f : Nat → Int32} (hP : va_P D cl [(a, .inl (cA, n, .inl f))] H) (hAa : A a) (hS : va_S A H0 H locs) (t0 : Nat) (ht : tys[t0]? = some (cA, .int)) {i : Int32} {x : Int32} (hin : vp_in i n) (hdg : decode cc pc = .ok (.iastore, 1))
    (kk : ∀ (H1 : Heap) (locs1 : List Loc), va_P D cl [(a, .inl (cA, n, .inl (upd f i.toNatClampNeg x)))] H1 → H1.size = H.size → (∀ q : Nat, q ≠ a → H1[q]? = H[q]?) → va_S A H0 H1 locs1 → W p l e R s m args below meth c H1 locs1 cells slots Q (F0 m (pc + 1) ls rest)) : W p l e R s m args below meth c H locs cells slots Q (F0 m pc ls (.int x :: .int i :: .ref a :: rest)) := by
  refine W.iast hexec hb (hP 0 _ rfl) ((hK.2 t0 _ ht).1 n (fun j => .int (f j))) (fun q => by cases q) (by show ¬ (i < 0 ∨ (arrV _ _ _).slots.size ≤ _); rw [arrV_size]; exact hin) rfl rfl hdg fun H1 e z oq => ?_
  refine kk H1 _ (hP.set (p := 0) (e := .inl (cA, n, .inl (upd f i.toNatClampNeg x))) (va_D1 (A := A) hAa) rfl ?_ oq) z oq (hS.put z oq hAa)
  show H1[a]? = some (vp_cell _ _)
  rw [e]
  rw [vp_cell_i, vp_cell_i, arrV_store]
  congr 2
  funext q
  by_cases hq : q = i.toNatClampNeg
  · subst hq
    simp [updV, upd]
  · simp [updV, upd, hq]
end IS
theorem keep_ne {A : Nat → Prop} {K W : va_W} (hD : va_D A (K ++ W)) {k j : Nat} {x y : Nat × va_E} (hx : K[k]? = some x) (hy : W[j]? = some y) : ¬ x.1 = y.1 := by
  intro h
  have hk : k < K.length := (List.getElem?_eq_some_iff.mp hx).1
  have h1 : (K ++ W)[k]? = some x := by rw [List.getElem?_append_left hk]; exact hx
  have h2 : (K ++ W)[K.length + j]? = some y := by rw [List.getElem?_append_right (Nat.le_add_right _ _), Nat.add_sub_cancel_left]; exact hy
  have h3 := hD.1 k (K.length + j) x y h1 h2 h
  omega
theorem row_at {α : Type} {n j : Nat} {f : Nat → α} (h : j < n) : ((List.range n).map f)[j]? = some (f j) := by
  rw [List.getElem?_map, List.getElem?_range h]
  rfl
theorem apart_at {A : Nat → Prop} {ws : va_W} (hD : va_D A ws) (i j : Nat) {x y : Nat × va_E} (hx : ws[i]? = some x) (hy : ws[j]? = some y) (h : i ≠ j) : ¬ x.1 = y.1 := fun q => h (hD.1 i j x y hx hy q)
/-! all the cells of a new object of the class -/
abbrev rw_ (r : Nat → Nat) : Nat → Option Nat := fun i => if i < 6 then some (r i) else none
abbrev fx_A (h0 : Nat) (q : Nat → Nat) (cy : Nat → ClassId) (cI : ClassId) (r6 r7 : Nat → Nat) : va_W := [(h0, .inr (6, fx_O q)), (q 1, .inl (cy 1, 8, .inr (.inr (.inr (.inr nn_))))), (q 2, .inl (cy 2, 12, .inr (.inr (.inr (.inr nn_))))), (q 3, .inl (cy 3, 120, .inr (.inr (.inr (.inr nn_))))), (q 8, .inl (cI, 6, .inl zz_)), (q 6, .inl (cy 6, 6, .inr (.inr (.inr (.inr (rw_ r6)))))), (q 7, .inl (cy 7, 6, .inr (.inr (.inr (.inr (rw_ r7)))))), (r6 0, .inl (cI, 21, .inl zz_)), (r6 1, .inl (cI, 21, .inl zz_)), (r6 2, .inl (cI, 21, .inl zz_)), (r6 3, .inl (cI, 21, .inl zz_)), (r6 4, .inl (cI, 21, .inl zz_)), (r6 5, .inl (cI, 21, .inl zz_)), (r7 0, .inl (cI, 6, .inl zz_)), (r7 1, .inl (cI, 6, .inl zz_)), (r7 2, .inl (cI, 6, .inl zz_)), (r7 3, .inl (cI, 6, .inl zz_)), (r7 4, .inl (cI, 6, .inl zz_)), (r7 5, .inl (cI, 6, .inl zz_))]
abbrev fx_AT (cy : Nat → ClassId) (cI : ClassId) : List (ClassId × FieldType) := [(cy 1, .object RX4), (cy 2, .object RX6), (cy 3, .object RX0), (cI, .int), (cy 6, .array .int), (cy 7, .array .int)]
abbrev fx_B : List Value := [.null, .null, .null, .null, .null, .null, .null, .null, .int 0, .int 0, .int 0, .int 0, .int 0, .int 0]
end
