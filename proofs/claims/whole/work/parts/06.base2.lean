abbrev vwCl : List vw_C := [(RX0, TX0, 17), (RX1, TX1, 11), (RX2, TX2, 7), (RX3, TX3, 3), (RX4, TX4, 4), (RX5, TX5, 8), (RX6, TX6, 5), (RX7, TX7, 7), (RX8, TX8, 2), (RX9, TX9, 5), (RX10, TX10, 3), (RX11, TX11, 8), (RX12, TX12, 48), (RX13, TX13, 29)]
/-! WHAT THE STATEMENT GIVES OF THE START: the static tables, the texts, the links within a nest -/
def nsM : List (String × Nat × MethodName × String) := [("StoneWalk", 9, ⟨"StoneWalk$Tape", "<init>", "()V"⟩, "StoneWalk"), ("StoneWalk", 27, ⟨"StoneWalk$Sights", "<init>", "()V"⟩, "StoneWalk"), ("StoneWalk", 34, ⟨"StoneWalk$Journey", "<init>", "()V"⟩, "StoneWalk"), ("StoneWalk$Island", 54, ⟨"StoneWalk$Way", "<init>", "()V"⟩, "StoneWalk"), ("StoneWalk$Island", 55, ⟨"StoneWalk$Road", "<init>", "()V"⟩, "StoneWalk"), ("StoneWalk$Island", 56, ⟨"StoneWalk$Stone", "<init>", "()V"⟩, "StoneWalk"), ("StoneWalk$Island", 57, ⟨"StoneWalk$Trial", "<init>", "()V"⟩, "StoneWalk"), ("StoneWalk$Island", 58, ⟨"StoneWalk$Story", "<init>", "()V"⟩, "StoneWalk"), ("StoneWalk$Island", 59, ⟨"StoneWalk$Teller", "<init>", "()V"⟩, "StoneWalk"), ("StoneWalk$Island", 71, ⟨"StoneWalk", "entry", "([II)I"⟩, "StoneWalk"), ("StoneWalk$Island", 185, ⟨"StoneWalk", "upwards", "(II)I"⟩, "StoneWalk"), ("StoneWalk$Journey", 144, ⟨"StoneWalk", "isCrowd", "(I)Z"⟩, "StoneWalk"), ("StoneWalk$Reader", 349, ⟨"StoneWalk", "entry", "([II)I"⟩, "StoneWalk"), ("StoneWalk$Road", 19, ⟨"StoneWalk", "entry", "([II)I"⟩, "StoneWalk"), ("StoneWalk$Sights", 39, ⟨"StoneWalk", "entry", "([II)I"⟩, "StoneWalk"), ("StoneWalk$Story", 41, ⟨"StoneWalk", "entry", "([II)I"⟩, "StoneWalk"), ("StoneWalk$Way", 49, ⟨"StoneWalk", "entry", "([II)I"⟩, "StoneWalk"), ("StoneWalk$Way", 56, ⟨"StoneWalk", "upwards", "(II)I"⟩, "StoneWalk"), ("StoneWalkModel", 427, ⟨"StoneWalkModel$Island", "<init>", "()V"⟩, "StoneWalkModel")]
def nsF : List (String × Nat × String × String × String × String) := [("StoneWalk$Island", 68, "StoneWalk", "ROOM", "[I", "StoneWalk"), ("StoneWalkModel", 160, "StoneWalkModel$Island", "name", "[J", "StoneWalkModel"), ("StoneWalkModel", 164, "StoneWalkModel$Island", "names", "I", "StoneWalkModel"), ("StoneWalkModel", 167, "StoneWalkModel$Island", "nameSort", "[I", "StoneWalkModel"), ("StoneWalkModel", 170, "StoneWalkModel$Island", "nameNumber", "[I", "StoneWalkModel"), ("StoneWalkModel", 185, "StoneWalkModel$Island", "ways", "I", "StoneWalkModel"), ("StoneWalkModel", 188, "StoneWalkModel$Island", "roads", "I", "StoneWalkModel"), ("StoneWalkModel", 191, "StoneWalkModel$Island", "statues", "I", "StoneWalkModel"), ("StoneWalkModel", 247, "StoneWalkModel$Island", "kind", "[I", "StoneWalkModel"), ("StoneWalkModel", 250, "StoneWalkModel$Island", "weighs", "[I", "StoneWalkModel"), ("StoneWalkModel", 252, "StoneWalkModel$Island", "pull", "[I", "StoneWalkModel"), ("StoneWalkModel", 261, "StoneWalkModel$Island", "slope", "[I", "StoneWalkModel"), ("StoneWalkModel", 264, "StoneWalkModel$Island", "hollow", "[I", "StoneWalkModel"), ("StoneWalkModel", 266, "StoneWalkModel$Island", "slopes", "[I", "StoneWalkModel"), ("StoneWalkModel", 286, "StoneWalkModel$Island", "lying", "I", "StoneWalkModel"), ("StoneWalkModel", 301, "StoneWalkModel$Island", "tons", "[I", "StoneWalkModel"), ("StoneWalkModel", 303, "StoneWalkModel$Island", "lean", "[I", "StoneWalkModel"), ("StoneWalkModel", 305, "StoneWalkModel$Island", "edge", "[I", "StoneWalkModel"), ("StoneWalkModel", 307, "StoneWalkModel$Island", "sort", "[I", "StoneWalkModel"), ("StoneWalkModel", 309, "StoneWalkModel$Island", "lie", "[I", "StoneWalkModel"), ("StoneWalkModel", 312, "StoneWalkModel$Island", "on", "[I", "StoneWalkModel"), ("StoneWalkModel", 314, "StoneWalkModel$Island", "there", "[I", "StoneWalkModel"), ("StoneWalkModel", 317, "StoneWalkModel$Island", "trials", "I", "StoneWalkModel"), ("StoneWalkModel", 328, "StoneWalkModel$Island", "trialWay", "[I", "StoneWalkModel"), ("StoneWalkModel", 331, "StoneWalkModel$Island", "trialTons", "[I", "StoneWalkModel"), ("StoneWalkModel", 334, "StoneWalkModel$Island", "trialPeople", "[I", "StoneWalkModel"), ("StoneWalkModel", 337, "StoneWalkModel$Island", "trialYards", "[I", "StoneWalkModel"), ("StoneWalkModel", 340, "StoneWalkModel$Island", "trialMinutes", "[I", "StoneWalkModel"), ("StoneWalkModel", 343, "StoneWalkModel$Island", "trees", "I", "StoneWalkModel"), ("StoneWalkModel", 349, "StoneWalkModel$Island", "grows", "I", "StoneWalkModel"), ("StoneWalkModel", 351, "StoneWalkModel$Island", "people", "I", "StoneWalkModel"), ("StoneWalkModel", 353, "StoneWalkModel$Island", "fields", "I", "StoneWalkModel"), ("StoneWalkModel", 357, "StoneWalkModel$Island", "feeds", "I", "StoneWalkModel"), ("StoneWalkModel", 359, "StoneWalkModel$Island", "houses", "I", "StoneWalkModel"), ("StoneWalkModel", 363, "StoneWalkModel$Island", "least", "I", "StoneWalkModel"), ("StoneWalkModel", 368, "StoneWalkModel$Island", "most", "I", "StoneWalkModel"), ("StoneWalkModel", 371, "StoneWalkModel$Island", "stories", "I", "StoneWalkModel"), ("StoneWalkModel", 382, "StoneWalkModel$Island", "storyWeighs", "[I", "StoneWalkModel"), ("StoneWalkModel", 385, "StoneWalkModel$Island", "cause", "[I", "StoneWalkModel"), ("StoneWalkModel", 388, "StoneWalkModel$Island", "much", "[I", "StoneWalkModel"), ("StoneWalkModel", 391, "StoneWalkModel$Island", "every", "[I", "StoneWalkModel"), ("StoneWalkModel", 393, "StoneWalkModel$Island", "tellers", "I", "StoneWalkModel"), ("StoneWalkModel", 403, "StoneWalkModel$Island", "means", "[I", "StoneWalkModel"), ("StoneWalkModel", 405, "StoneWalkModel$Island", "isStranger", "[Z", "StoneWalkModel"), ("StoneWalkModel", 409, "StoneWalkModel$Island", "tries", "I", "StoneWalkModel"), ("StoneWalkModel", 412, "StoneWalkModel$Island", "tryTons", "[I", "StoneWalkModel"), ("StoneWalkModel", 415, "StoneWalkModel$Island", "tryLean", "[I", "StoneWalkModel"), ("StoneWalkModel", 418, "StoneWalkModel$Island", "tryEdge", "[I", "StoneWalkModel"), ("StoneWalkModel", 421, "StoneWalkModel$Island", "trySlope", "[I", "StoneWalkModel")]
def ldT : List (String × Nat × String × Nat) := [("StoneWalk$Reader", 65, "way road statue trial story teller try land fields houses", 0), ("StoneWalk$Reader", 149, "walked sled rolled dragged", 1), ("StoneWalk$Reader", 159, "weighs", 2), ("StoneWalk$Reader", 167, "pull", 3), ("StoneWalk$Reader", 176, "hollow", 4), ("StoneWalk$Reader", 180, "slopes", 5), ("StoneWalk$Reader", 182, "up down", 6), ("StoneWalk$Reader", 194, "tons", 7), ("StoneWalk$Reader", 200, "lean", 8), ("StoneWalk$Reader", 204, "edge", 9), ("StoneWalk$Reader", 218, "lies", 10), ("StoneWalk$Reader", 220, "cut large buried stood tried lies", 11), ("StoneWalk$Reader", 231, "face back side", 12), ("StoneWalk$Reader", 233, "on", 13), ("StoneWalk$Reader", 238, "at", 14), ("StoneWalk$Reader", 246, "of", 15), ("StoneWalk$Reader", 254, "people", 16), ("StoneWalk$Reader", 258, "yards", 17), ("StoneWalk$Reader", 262, "minutes", 18), ("StoneWalk$Reader", 269, "felled rats fires", 19), ("StoneWalk$Reader", 277, "every", 20), ("StoneWalk$Reader", 281, "year", 21), ("StoneWalk$Reader", 283, "means", 22), ("StoneWalk$Reader", 293, "stranger", 23), ("StoneWalk$Reader", 302, "trees", 24), ("StoneWalk$Reader", 306, "grows", 25), ("StoneWalk$Reader", 314, "feeds", 26), ("StoneWalk$Reader", 321, "holds", 27), ("StoneWalk$Reader", 326, "to", 28), ("StoneWalk$Reader", 344, "way road statue trial land fields houses story teller try up down stranger", 29), ("StoneWalkModel", 120, "way", 30), ("StoneWalkModel", 122, "road", 31), ("StoneWalkModel", 124, "statue", 32), ("StoneWalkModel", 126, "trial", 33), ("StoneWalkModel", 128, "land", 34), ("StoneWalkModel", 130, "fields", 35), ("StoneWalkModel", 132, "houses", 36), ("StoneWalkModel", 134, "story", 37), ("StoneWalkModel", 136, "teller", 38), ("StoneWalkModel", 138, "try", 39), ("StoneWalkModel", 140, "up", 40), ("StoneWalkModel", 142, "down", 41), ("StoneWalkModel", 144, "stranger", 23), ("StoneWalkModel", 231, "walked", 42), ("StoneWalkModel", 233, "sled", 43), ("StoneWalkModel", 235, "rolled", 44), ("StoneWalkModel", 237, "dragged", 45), ("StoneWalkModel", 239, "weighs", 2), ("StoneWalkModel", 245, "pull", 3), ("StoneWalkModel", 254, "hollow", 4), ("StoneWalkModel", 256, "slopes", 5), ("StoneWalkModel", 268, "tons", 7), ("StoneWalkModel", 270, "lean", 8), ("StoneWalkModel", 272, "edge", 9), ("StoneWalkModel", 274, "cut", 46), ("StoneWalkModel", 276, "large", 47), ("StoneWalkModel", 278, "buried", 48), ("StoneWalkModel", 280, "stood", 49), ("StoneWalkModel", 282, "tried", 50), ("StoneWalkModel", 284, "lies", 10), ("StoneWalkModel", 289, "face", 51), ("StoneWalkModel", 291, "back", 52), ("StoneWalkModel", 293, "side", 53), ("StoneWalkModel", 295, "on", 13), ("StoneWalkModel", 300, "at", 14), ("StoneWalkModel", 320, "of", 15), ("StoneWalkModel", 322, "people", 16), ("StoneWalkModel", 324, "yards", 17), ("StoneWalkModel", 326, "minutes", 18), ("StoneWalkModel", 346, "trees", 24), ("StoneWalkModel", 347, "grows", 25), ("StoneWalkModel", 355, "feeds", 26), ("StoneWalkModel", 361, "holds", 27), ("StoneWalkModel", 366, "to", 28), ("StoneWalkModel", 374, "felled", 54), ("StoneWalkModel", 376, "rats", 55), ("StoneWalkModel", 378, "fires", 56), ("StoneWalkModel", 380, "every", 20), ("StoneWalkModel", 396, "year", 21), ("StoneWalkModel", 398, "means", 22)]
def SF (q : SE) (A : Nat → Prop) (U : State) (H : Heap) : Prop :=
  (∀ t : Nat, t < 7 → va_Z (stA.getD t ("", "", [])).1 (stA.getD t ("", "", [])).2.1 "[I" (.ref (q.1 t)) A U H ∧ va_T .int (q.1 t) (stl t) (fun j => .int (stv t j)) A U H) ∧
  (∀ r ∈ nsM, va_Nw (.methodLinkNest r.1 r.2.1 r.2.2.1 r.2.2.2) U) ∧ (∀ r ∈ nsF, va_Nw (.fieldLinkNest r.1 r.2.1 r.2.2.1 r.2.2.2.1 r.2.2.2.2.1 r.2.2.2.2.2) U) ∧
  vk_S nS lenS bytS q.2.1 q.2.2 A U H ∧ (∀ r ∈ ldT, vk_R r.1 r.2.1 r.2.2.1 (q.2.1 r.2.2.2) U) ∧
  va_Z "java/lang/String" "COMPACT_STRINGS" "Z" (.int 1) A U H ∧ va_Zq "jdk/internal/util/Preconditions" "SIOOBE_FORMATTER" "Ljava/util/function/BiFunction;" A U H ∧ (∀ C ∈ ["StoneWalk$Way", "StoneWalk$Road", "StoneWalk$Stone", "StoneWalk$Trial", "StoneWalk$Story", "StoneWalk$Teller"], va_AO C U)
theorem SF.go {q : SE} {A : Nat → Prop} {s U : State} {H : Heap} {locs : List Loc} (h : SF q A s s.heap) (hS : va_S A s.heap H locs) (hW : s.WarmedH U.vm) : SF q A U H := by
  obtain ⟨h1, h2, h3, h4, h5, h6, h7, h8⟩ := h
  exact ⟨fun t ht => ⟨((h1 t ht).1.moved hW.alike).kept hS.2.1, ((h1 t ht).2.moved hW.alike).kept hS.2.1⟩, fun r hr => va_Nw.warmM hW (h2 r hr), fun r hr => va_Nw.warmF hW (h3 r hr), (h4.moved hW.alike).kept hS.2.1, fun r hr => (h5 r hr).warm hW, (h6.moved hW.alike).kept hS.2.1, (h7.moved hW.alike).kept hS.2.1, fun C hC => (h8 C hC).moved hW.alike⟩
/-- the world of a method, whole: the cells hold M, the tables and texts stand -/
def Wd (D : va_G) (ad : Nat → Nat) (cy : Nat → ClassId) (A : Nat → Prop) (g : CG) (q : SE) (M : MM) (U : State) : Prop := va_P D vwCl (wd ad cy g M) U.heap ∧ va_K D vwCl (tyL cy) U ∧ va_D A (wd ad cy g M) ∧ WT g M ∧ SF q A U U.heap
theorem Wd.at {D : va_G} {ad : Nat → Nat} {cy : Nat → ClassId} {A : Nat → Prop} {g : CG} {q : SE} {M : MM} {s U : State} {H : Heap} {locs : List Loc} (hP : va_P D vwCl (wd ad cy g M) H) (hK : va_K D vwCl (tyL cy) s) (hD : va_D A (wd ad cy g M)) (hT : WT g M) (hG : SF q A s s.heap) (hS : va_S A s.heap H locs) (hW : s.WarmedH U.vm) (hU : U.heap = H) : Wd D ad cy A g q M U := by
  refine ⟨by rw [hU]; exact hP, va_K.moved hW.alike hK, hD, hT, ?_⟩
  rw [hU]
  exact hG.go hS hW
theorem Wd.blind {D : va_G} {ad : Nat → Nat} {cy : Nat → ClassId} {A : Nat → Prop} {g : CG} {q : SE} {M : MM} {av : List Value} : FrameBlind (va_Pc av (Wd D ad cy A g q M)) := by
  intro a U fr mk h
  obtain ⟨e, h1, h2, h3, h4, g1, g2, g3, g4, g5, g6, g7, g8⟩ := h
  have hv : U.vm.Alike (U.calling fr mk a).vm := Vm.Alike.refl U.vm
  refine ⟨e, h1, h2.moved hv, h3, h4, fun t ht => ⟨(g1 t ht).1.moved hv, (g1 t ht).2.moved hv⟩, fun r hr => va_Nw.same rfl rfl (g2 r hr), fun r hr => va_Nw.same rfl rfl (g3 r hr), g4.moved hv, fun r hr => (g5 r hr).same rfl, g6.moved hv, g7.moved hv, fun C hC => (g8 C hC).moved hv⟩
section ROWS
variable {p : Program} {l : Launch} {e : Env} {R : Room} {s : State} {m : MethodId} {args : Array Value} {below : List Frame} {meth : Method} {c : Code} {H : Heap} {locs : List Loc} {cells slots : Nat} {Q : State → Prop}
variable {cc : ByteArray} {pc : Nat} {ls : Array Slot} {rest : List Value} {D : va_G} {ad : Nat → Nat} {cy : Nat → ClassId} {A : Nat → Prop} {g : CG} {q : SE} {M : MM} {H0 : Heap}
theorem r_get (hx : p.tables.exec = Jvm.exec) (hb : c.code = cc) {own C : String} {T : u_T} {N ci z index : Nat} {Ts : List Cond} (hts : ∀ w ∈ Ts, w.before args s = true) (hin : ∀ w ∈ u_ws C T N, w ∈ Ts) (hown : s.vm.findClass own = some m.cls) (hK : va_K D vwCl (tyL cy) s) (hP : va_P D vwCl (wd ad cy g M) H) {a : Nat} (ha : ok g a ci z) (hci : ci < 14) (hc : vwCl[ci]? = some (C, T, N)) (k : Nat) (hk : k < N)
    (hlink : (Cond.fieldLink own index C (T k).2.1 (T k).2.2.1).before args s = true) (hself : (T k).1 = C) {t : Nat} (ht : (lays.getD ci [])[k]? = some t) {v : Value} (hv : vv ad M a k t = v) (hdg : decode cc pc = .ok (.getfield index, 3))
    (kk : W p l e R s m args below meth c H locs cells slots Q (F0 m (pc + 3) ls (v :: rest))) : W p l e R s m args below meth c H locs cells slots Q (F0 m pc ls (.ref (ad a) :: rest)) := by
  obtain ⟨q0, hq⟩ := wd_at (cy := cy) (M := M) ha.1
  rw [ent_ob ha.2.1 hci] at hq
  refine va_get hx hb hts hin hown hK hP q0 hq hc k hk hlink (fun x hx2 => by rw [hself] at hx2; exact hx2) (v := v) ?_ hdg kk
  rw [fv_get, ht, ← hv]
  simp
theorem r_getN (hx : p.tables.exec = Jvm.exec) (hb : c.code = cc) {own C host : String} {T : u_T} {N ci z index : Nat} {Ts : List Cond} (hts : ∀ w ∈ Ts, w.before args s = true) (hin : ∀ w ∈ u_ws C T N, w ∈ Ts) (hown : s.vm.findClass own = some m.cls) (hK : va_K D vwCl (tyL cy) s) (hP : va_P D vwCl (wd ad cy g M) H) {a : Nat} (ha : ok g a ci z) (hci : ci < 14) (hc : vwCl[ci]? = some (C, T, N)) (k : Nat) (hk : k < N)
    (hlink : va_Nw (.fieldLinkNest own index C (T k).2.1 (T k).2.2.1 host) s) (hself : (T k).1 = C) {t : Nat} (ht : (lays.getD ci [])[k]? = some t) {v : Value} (hv : vv ad M a k t = v) (hdg : decode cc pc = .ok (.getfield index, 3))
    (kk : W p l e R s m args below meth c H locs cells slots Q (F0 m (pc + 3) ls (v :: rest))) : W p l e R s m args below meth c H locs cells slots Q (F0 m pc ls (.ref (ad a) :: rest)) := by
  obtain ⟨q0, hq⟩ := wd_at (cy := cy) (M := M) ha.1
  rw [ent_ob ha.2.1 hci] at hq
  refine va_getN hx hb hts hin hown hK hP q0 hq hc k hk (hlink.use rfl) (fun x hx2 => by rw [hself] at hx2; exact hx2) (v := v) ?_ hdg kk
  rw [fv_get, ht, ← hv]
  simp
/-- one place of one cell is written: the rows of the old world become the new world's -/
theorem wd_put {M' : MM} {ci z a k t q0 : Nat} {v : Value} (hD : va_D A (wd ad cy g M)) (ha : ok g a ci z) (hci : ci < 14) (hq : (wd ad cy g M)[q0]? = some (ad a, ent ad cy g M a)) (ht : (lays.getD ci [])[k]? = some t) (hv : vv ad M' a k t = v) (ho : ∀ i t' : Nat, i ≠ k → vv ad M' a i t' = vv ad M a i t')
    (h1 : ∀ b, b ≠ a → M'.1 b = M.1 b) (h2 : ∀ b, b ≠ a → M'.2.1 b = M.2.1 b) (h3 : ∀ b, b ≠ a → M'.2.2 b = M.2.2 b) : (wd ad cy g M).set q0 (ad a, .inr (ci, (fv ad M a 0 (lays.getD ci [])).set k v)) = wd ad cy g M' :=
  wd_set hD hq (by rw [ent_ob ha.2.1 hci, fv_set ht hv ho]) h1 h2 h3 ha.1
theorem vv_I {a k i t : Nat} {v : Int32} (h : i ≠ k) : vv ad (pI M a k v) a i t = vv ad M a i t := by
  unfold vv gI gL gR pI
  simp only [up2_ne M.1 v (fun _ => h)]
theorem vv_L {a k i t : Nat} {v : Int64} (h : i ≠ k) : vv ad (pL M a k v) a i t = vv ad M a i t := by
  unfold vv gI gL gR pL
  simp only [up2_ne M.2.1 v (fun _ => h)]
theorem vv_R {a k i t : Nat} {v : Option Nat} (h : i ≠ k) : vv ad (pR M a k v) a i t = vv ad M a i t := by
  unfold vv gI gL gR pR
  simp only [up2_ne M.2.2 v (fun _ => h)]
theorem r_putI (hx : p.tables.exec = Jvm.exec) (hb : c.code = cc) {own C : String} {T : u_T} {N ci z index : Nat} {Ts : List Cond} (hts : ∀ w ∈ Ts, w.before args s = true) (hin : ∀ w ∈ u_ws C T N, w ∈ Ts) (ty0 : Nat → FieldType) (hty : ∀ k, k < N → parseFieldDescriptor (T k).2.2.1 = some (ty0 k)) (hnm : ∀ a, a < N → ∀ b, b < N → a ≠ b → (T a).2.1 ≠ (T b).2.1) (hown : s.vm.findClass own = some m.cls) (hK : va_K D vwCl (tyL cy) s) (hP : va_P D vwCl (wd ad cy g M) H) (hD : va_D A (wd ad cy g M)) (hT : WT g M) (hS : va_S A H0 H locs) {a : Nat} (ha : ok g a ci z) (hci : ci < 14) (hc : vwCl[ci]? = some (C, T, N)) (k : Nat) (hk : k < N)
    (hlink : (Cond.fieldLink own index C (T k).2.1 (T k).2.2.1).before args s = true) (hself : (T k).1 = C) (hfin : (T k).2.2.2 = false) {ty : FieldType} {v : Int32} (hd : parseFieldDescriptor (T k).2.2.1 = some ty) (hn : narrow ty (.int v) = .int v) (hfit : fits ty (.int v) = true) (ht : (lays.getD ci [])[k]? = some 0) (hdg : decode cc pc = .ok (.putfield index, 3))
    (kk : ∀ (H : Heap) (locs : List Loc), va_P D vwCl (wd ad cy g (pI M a k v)) H → va_D A (wd ad cy g (pI M a k v)) → WT g (pI M a k v) → va_S A H0 H locs → W p l e R s m args below meth c H locs cells slots Q (F0 m (pc + 3) ls rest)) : W p l e R s m args below meth c H locs cells slots Q (F0 m pc ls (.int v :: .ref (ad a) :: rest)) := by
  obtain ⟨q0, hq0⟩ := wd_at (cy := cy) (M := M) ha.1
  have hq := hq0
  rw [ent_ob ha.2.1 hci] at hq
  have e := wd_put (M' := pI M a k v) (v := .int v) hD ha hci hq0 ht (congrArg Value.int (up2_self M.1 a k v)) (fun i t h => vv_I h) (fun b h => up2_row _ _ h) (fun _ _ => rfl) (fun _ _ => rfl)
  refine va_put hx hb hts hin ty0 hty hnm hown hK hP hD hS q0 hq hc k hk hlink (fun x hx2 => by rw [hself] at hx2; exact hx2) hfin hd hn hfit (by rw [fv_len]; exact (List.getElem?_eq_some_iff.mp ht).1) hdg (fun H1 locs1 hP1 hD1 hS1 => ?_)
  rw [e] at hP1 hD1
  exact kk H1 locs1 hP1 hD1 (hT.same rfl) hS1
theorem r_putIN (hx : p.tables.exec = Jvm.exec) (hb : c.code = cc) {own C host : String} {T : u_T} {N ci z index : Nat} {Ts : List Cond} (hts : ∀ w ∈ Ts, w.before args s = true) (hin : ∀ w ∈ u_ws C T N, w ∈ Ts) (ty0 : Nat → FieldType) (hty : ∀ k, k < N → parseFieldDescriptor (T k).2.2.1 = some (ty0 k)) (hnm : ∀ a, a < N → ∀ b, b < N → a ≠ b → (T a).2.1 ≠ (T b).2.1) (hown : s.vm.findClass own = some m.cls) (hK : va_K D vwCl (tyL cy) s) (hP : va_P D vwCl (wd ad cy g M) H) (hD : va_D A (wd ad cy g M)) (hT : WT g M) (hS : va_S A H0 H locs) {a : Nat} (ha : ok g a ci z) (hci : ci < 14) (hc : vwCl[ci]? = some (C, T, N)) (k : Nat) (hk : k < N)
    (hlink : va_Nw (.fieldLinkNest own index C (T k).2.1 (T k).2.2.1 host) s) (hself : (T k).1 = C) (hfin : (T k).2.2.2 = false) {ty : FieldType} {v : Int32} (hd : parseFieldDescriptor (T k).2.2.1 = some ty) (hn : narrow ty (.int v) = .int v) (hfit : fits ty (.int v) = true) (ht : (lays.getD ci [])[k]? = some 0) (hdg : decode cc pc = .ok (.putfield index, 3))
    (kk : ∀ (H : Heap) (locs : List Loc), va_P D vwCl (wd ad cy g (pI M a k v)) H → va_D A (wd ad cy g (pI M a k v)) → WT g (pI M a k v) → va_S A H0 H locs → W p l e R s m args below meth c H locs cells slots Q (F0 m (pc + 3) ls rest)) : W p l e R s m args below meth c H locs cells slots Q (F0 m pc ls (.int v :: .ref (ad a) :: rest)) := by
  obtain ⟨q0, hq0⟩ := wd_at (cy := cy) (M := M) ha.1
  have hq := hq0
  rw [ent_ob ha.2.1 hci] at hq
  have e := wd_put (M' := pI M a k v) (v := .int v) hD ha hci hq0 ht (congrArg Value.int (up2_self M.1 a k v)) (fun i t h => vv_I h) (fun b h => up2_row _ _ h) (fun _ _ => rfl) (fun _ _ => rfl)
  refine va_putN hx hb hts hin ty0 hty hnm hown hK hP hD hS q0 hq hc k hk (hlink.use rfl) (fun x hx2 => by rw [hself] at hx2; exact hx2) hfin hd hn hfit (by rw [fv_len]; exact (List.getElem?_eq_some_iff.mp ht).1) hdg (fun H1 locs1 hP1 hD1 hS1 => ?_)
  rw [e] at hP1 hD1
  exact kk H1 locs1 hP1 hD1 (hT.same rfl) hS1
theorem r_putL (hx : p.tables.exec = Jvm.exec) (hb : c.code = cc) {own C : String} {T : u_T} {N ci z index : Nat} {Ts : List Cond} (hts : ∀ w ∈ Ts, w.before args s = true) (hin : ∀ w ∈ u_ws C T N, w ∈ Ts) (ty0 : Nat → FieldType) (hty : ∀ k, k < N → parseFieldDescriptor (T k).2.2.1 = some (ty0 k)) (hnm : ∀ a, a < N → ∀ b, b < N → a ≠ b → (T a).2.1 ≠ (T b).2.1) (hown : s.vm.findClass own = some m.cls) (hK : va_K D vwCl (tyL cy) s) (hP : va_P D vwCl (wd ad cy g M) H) (hD : va_D A (wd ad cy g M)) (hT : WT g M) (hS : va_S A H0 H locs) {a : Nat} (ha : ok g a ci z) (hci : ci < 14) (hc : vwCl[ci]? = some (C, T, N)) (k : Nat) (hk : k < N)
    (hlink : (Cond.fieldLink own index C (T k).2.1 (T k).2.2.1).before args s = true) (hself : (T k).1 = C) (hfin : (T k).2.2.2 = false) {v : Int64} (hd : parseFieldDescriptor (T k).2.2.1 = some .long) (ht : (lays.getD ci [])[k]? = some 1) (hdg : decode cc pc = .ok (.putfield index, 3))
    (kk : ∀ (H : Heap) (locs : List Loc), va_P D vwCl (wd ad cy g (pL M a k v)) H → va_D A (wd ad cy g (pL M a k v)) → WT g (pL M a k v) → va_S A H0 H locs → W p l e R s m args below meth c H locs cells slots Q (F0 m (pc + 3) ls rest)) : W p l e R s m args below meth c H locs cells slots Q (F0 m pc ls (.long v :: .ref (ad a) :: rest)) := by
  obtain ⟨q0, hq0⟩ := wd_at (cy := cy) (M := M) ha.1
  have hq := hq0
  rw [ent_ob ha.2.1 hci] at hq
  have e := wd_put (M' := pL M a k v) (v := .long v) hD ha hci hq0 ht (congrArg Value.long (up2_self M.2.1 a k v)) (fun i t h => vv_L h) (fun _ _ => rfl) (fun b h => up2_row _ _ h) (fun _ _ => rfl)
  refine va_put hx hb hts hin ty0 hty hnm hown hK hP hD hS q0 hq hc k hk hlink (fun x hx2 => by rw [hself] at hx2; exact hx2) hfin hd rfl rfl (by rw [fv_len]; exact (List.getElem?_eq_some_iff.mp ht).1) hdg (fun H1 locs1 hP1 hD1 hS1 => ?_)
  rw [e] at hP1 hD1
  exact kk H1 locs1 hP1 hD1 (hT.same rfl) hS1
theorem r_putR (hx : p.tables.exec = Jvm.exec) (hb : c.code = cc) {own C : String} {T : u_T} {N ci z index : Nat} {Ts : List Cond} (hts : ∀ w ∈ Ts, w.before args s = true) (hin : ∀ w ∈ u_ws C T N, w ∈ Ts) (ty0 : Nat → FieldType) (hty : ∀ k, k < N → parseFieldDescriptor (T k).2.2.1 = some (ty0 k)) (hnm : ∀ a, a < N → ∀ b, b < N → a ≠ b → (T a).2.1 ≠ (T b).2.1) (hown : s.vm.findClass own = some m.cls) (hK : va_K D vwCl (tyL cy) s) (hP : va_P D vwCl (wd ad cy g M) H) (hD : va_D A (wd ad cy g M)) (hT : WT g M) (hS : va_S A H0 H locs) {a : Nat} (ha : ok g a ci z) (hci : ci < 14) (hc : vwCl[ci]? = some (C, T, N)) (k : Nat) (hk : k < N)
    (hlink : (Cond.fieldLink own index C (T k).2.1 (T k).2.2.1).before args s = true) (hself : (T k).1 = C) (hfin : (T k).2.2.2 = false) {n : String} {v : Nat} (hd : parseFieldDescriptor (T k).2.2.1 = some (.object n)) (ht : (lays.getD ci [])[k]? = some 2) (hw1 : ∀ t n : Nat, rt ci k = some (t, n) → ok g v t n) (hw2 : ek ci = none) (hdg : decode cc pc = .ok (.putfield index, 3))
    (kk : ∀ (H : Heap) (locs : List Loc), va_P D vwCl (wd ad cy g (pR M a k (some v))) H → va_D A (wd ad cy g (pR M a k (some v))) → WT g (pR M a k (some v)) → va_S A H0 H locs → W p l e R s m args below meth c H locs cells slots Q (F0 m (pc + 3) ls rest)) : W p l e R s m args below meth c H locs cells slots Q (F0 m pc ls (.ref (ad v) :: .ref (ad a) :: rest)) := by
  obtain ⟨q0, hq0⟩ := wd_at (cy := cy) (M := M) ha.1
  have hq := hq0
  rw [ent_ob ha.2.1 hci] at hq
  have e := wd_put (M' := pR M a k (some v)) (v := .ref (ad v)) hD ha hci hq0 ht (congrArg (fun z : Option Nat => va_rf (z.map ad)) (up2_self M.2.2 a k (some v))) (fun i t h => vv_R h) (fun _ _ => rfl) (fun _ _ => rfl) (fun b h => up2_row _ _ h)
  refine va_put hx hb hts hin ty0 hty hnm hown hK hP hD hS q0 hq hc k hk hlink (fun x hx2 => by rw [hself] at hx2; exact hx2) hfin hd rfl rfl (by rw [fv_len]; exact (List.getElem?_eq_some_iff.mp ht).1) hdg (fun H1 locs1 hP1 hD1 hS1 => ?_)
  rw [e] at hP1 hD1
  exact kk H1 locs1 hP1 hD1 (hT.put ha hw1 (fun t h => by rw [hw2] at h; cases h)) hS1
/-- arrays: their cells -/
theorem wd_ar {a t n : Nat} (ha : ok g a t n) (hnt : ¬ t < 14) : ∃ k : Nat, (wd ad cy g M)[k]? = some (ad a, ent ad cy g M a) ∧ (wd ad cy g M)[k]? = some (ad a, .inl (cy t, n, arE ad M a t)) := by
  obtain ⟨k, hk⟩ := wd_at (cy := cy) (M := M) ha.1
  exact ⟨k, hk, by rw [hk, ent_ar ha.2.1 hnt, ha.2.2]⟩
theorem r_iald (hx : p.tables.exec = Jvm.exec) (hb : c.code = cc) (hK : va_K D vwCl (tyL cy) s) (hP : va_P D vwCl (wd ad cy g M) H) {a n : Nat} (ha : ok g a 15 n) {i : Int32} (hin : ¬ (i < 0 ∨ n ≤ ix i)) (hdg : decode cc pc = .ok (.iaload, 1))
    (kk : W p l e R s m args below meth c H locs cells slots Q (F0 m (pc + 1) ls (.int (gI M a (ix i)) :: rest))) : W p l e R s m args below meth c H locs cells slots Q (F0 m pc ls (.int i :: .ref (ad a) :: rest)) := by
  obtain ⟨q0, -, hq⟩ := wd_ar (cy := cy) (M := M) ha (by decide)
  exact va_iald hx hb hK hP q0 1 hq rfl hin hdg kk
theorem r_bald (hx : p.tables.exec = Jvm.exec) (hb : c.code = cc) (hK : va_K D vwCl (tyL cy) s) (hP : va_P D vwCl (wd ad cy g M) H) {a n : Nat} (ha : ok g a 14 n) {i : Int32} (hin : ¬ (i < 0 ∨ n ≤ ix i)) (hdg : decode cc pc = .ok (.baload, 1))
    (kk : W p l e R s m args below meth c H locs cells slots Q (F0 m (pc + 1) ls (.int (gI M a (ix i)) :: rest))) : W p l e R s m args below meth c H locs cells slots Q (F0 m pc ls (.int i :: .ref (ad a) :: rest)) := by
  obtain ⟨q0, -, hq⟩ := wd_ar (cy := cy) (M := M) ha (by decide)
  exact va_bald hx hb hK hP q0 0 hq rfl hin hdg kk
theorem r_zald (hx : p.tables.exec = Jvm.exec) (hb : c.code = cc) (hK : va_K D vwCl (tyL cy) s) (hP : va_P D vwCl (wd ad cy g M) H) {a n : Nat} (ha : ok g a 17 n) {i : Int32} (hin : ¬ (i < 0 ∨ n ≤ ix i)) (hdg : decode cc pc = .ok (.baload, 1))
    (kk : W p l e R s m args below meth c H locs cells slots Q (F0 m (pc + 1) ls (.int (gI M a (ix i)) :: rest))) : W p l e R s m args below meth c H locs cells slots Q (F0 m pc ls (.int i :: .ref (ad a) :: rest)) := by
  obtain ⟨q0, -, hq⟩ := wd_ar (cy := cy) (M := M) ha (by decide)
  exact va_zald hx hb hK hP q0 3 hq rfl hin hdg kk
theorem r_lald (hx : p.tables.exec = Jvm.exec) (hb : c.code = cc) (hK : va_K D vwCl (tyL cy) s) (hP : va_P D vwCl (wd ad cy g M) H) {a n : Nat} (ha : ok g a 16 n) {i : Int32} (hin : ¬ (i < 0 ∨ n ≤ ix i)) (hdg : decode cc pc = .ok (.laload, 1))
    (kk : W p l e R s m args below meth c H locs cells slots Q (F0 m (pc + 1) ls (.long (gL M a (ix i)) :: rest))) : W p l e R s m args below meth c H locs cells slots Q (F0 m pc ls (.int i :: .ref (ad a) :: rest)) := by
  obtain ⟨q0, -, hq⟩ := wd_ar (cy := cy) (M := M) ha (by decide)
  exact va_lald hx hb hK hP q0 2 hq rfl hin hdg kk
theorem r_aald (hx : p.tables.exec = Jvm.exec) (hb : c.code = cc) (hK : va_K D vwCl (tyL cy) s) (hP : va_P D vwCl (wd ad cy g M) H) {a t t0 n : Nat} {C : String} (ha : ok g a t n) (ht : ¬ t < 14 ∧ ¬ t = 16 ∧ ¬ t < 18 ∧ t < 24) (hty : (tyL cy)[t0]? = some (cy t, .object C)) {i : Int32} (hin : ¬ (i < 0 ∨ n ≤ ix i)) {v : Nat} (hv : gR M a (ix i) = some v) (hdg : decode cc pc = .ok (.aaload, 1))
    (kk : W p l e R s m args below meth c H locs cells slots Q (F0 m (pc + 1) ls (.ref (ad v) :: rest))) : W p l e R s m args below meth c H locs cells slots Q (F0 m pc ls (.int i :: .ref (ad a) :: rest)) := by
  obtain ⟨q0, -, hq⟩ := wd_ar (cy := cy) (M := M) ha ht.1
  rw [show arE ad M a t = .inr (.inr (.inr (.inr (fun j => (gR M a j).map ad)))) by unfold arE; rw [if_neg ht.2.1, if_neg ht.2.2.1, if_pos ht.2.2.2]] at hq
  refine va_aldq hx hb hK hP q0 t0 hq hty hin hdg ?_
  show W _ _ _ _ _ _ _ _ _ _ _ _ _ _ _ (F0 _ _ _ (va_rf ((gR M a (ix i)).map ad) :: _))
  rw [hv]
  exact kk
theorem r_alen (hx : p.tables.exec = Jvm.exec) (hb : c.code = cc) (hK : va_K D vwCl (tyL cy) s) (hP : va_P D vwCl (wd ad cy g M) H) {a t t0 n : Nat} {ty : FieldType} (ha : ok g a t n) (ht : ¬ t < 14) (hty : (tyL cy)[t0]? = some (cy t, ty)) {v : Int32} (hv : Int32.ofNat n = v) (hdg : decode cc pc = .ok (.arraylength, 1))
    (kk : W p l e R s m args below meth c H locs cells slots Q (F0 m (pc + 1) ls (.int v :: rest))) : W p l e R s m args below meth c H locs cells slots Q (F0 m pc ls (.ref (ad a) :: rest)) := by
  obtain ⟨q0, -, hq⟩ := wd_ar (cy := cy) (M := M) ha ht
  exact va_alen hx hb hK hP q0 t0 hq hty hv hdg kk
theorem wd_st {M' : MM} {a t n q0 : Nat} {x : (Nat → Int32) ⊕ (Nat → Int64) ⊕ (Nat → UInt32) ⊕ (Nat → UInt64) ⊕ (Nat → Option Nat)} (hD : va_D A (wd ad cy g M)) (ha : ok g a t n) (hnt : ¬ t < 14) (hq : (wd ad cy g M)[q0]? = some (ad a, ent ad cy g M a)) (hx : arE ad M' a t = x)
    (h1 : ∀ b, b ≠ a → M'.1 b = M.1 b) (h2 : ∀ b, b ≠ a → M'.2.1 b = M.2.1 b) (h3 : ∀ b, b ≠ a → M'.2.2 b = M.2.2 b) : (wd ad cy g M).set q0 (ad a, .inl (cy t, n, x)) = wd ad cy g M' :=
  wd_set hD hq (by rw [ent_ar ha.2.1 hnt, ha.2.2, hx]) h1 h2 h3 ha.1
theorem upd_eq {f : Nat → Int32} {k : Nat} {x : Int32} : upd f k x = fun j => if j = k then x else f j := by
  funext j
  simp [upd]
theorem r_iast (hx : p.tables.exec = Jvm.exec) (hb : c.code = cc) (hK : va_K D vwCl (tyL cy) s) (hP : va_P D vwCl (wd ad cy g M) H) (hD : va_D A (wd ad cy g M)) (hT : WT g M) (hS : va_S A H0 H locs) {a n : Nat} (ha : ok g a 15 n) {i x : Int32} (hin : ¬ (i < 0 ∨ n ≤ ix i)) (hdg : decode cc pc = .ok (.iastore, 1))
    (kk : ∀ (H : Heap) (locs : List Loc), va_P D vwCl (wd ad cy g (pI M a (ix i) x)) H → va_D A (wd ad cy g (pI M a (ix i) x)) → WT g (pI M a (ix i) x) → va_S A H0 H locs → W p l e R s m args below meth c H locs cells slots Q (F0 m (pc + 1) ls rest)) : W p l e R s m args below meth c H locs cells slots Q (F0 m pc ls (.int x :: .int i :: .ref (ad a) :: rest)) := by
  obtain ⟨q0, hq0, hq⟩ := wd_ar (cy := cy) (M := M) ha (by decide)
  have e := wd_st (M' := pI M a (ix i) x) (x := .inl (upd (gI M a) (ix i) x)) hD ha (by decide) hq0 (by rw [upd_eq]; show Sum.inl _ = Sum.inl _; congr 1; exact up2_rowS M.1 a (ix i) x) (fun b h => up2_row _ _ h) (fun _ _ => rfl) (fun _ _ => rfl)
  refine va_iast hx hb hK hP hD hS q0 1 hq rfl hin hdg (fun H1 locs1 hP1 hD1 hS1 => ?_)
  rw [e] at hP1 hD1
  exact kk H1 locs1 hP1 hD1 (hT.same rfl) hS1
theorem r_bast (hx : p.tables.exec = Jvm.exec) (hb : c.code = cc) (hK : va_K D vwCl (tyL cy) s) (hP : va_P D vwCl (wd ad cy g M) H) (hD : va_D A (wd ad cy g M)) (hT : WT g M) (hS : va_S A H0 H locs) {a n : Nat} (ha : ok g a 14 n) {i x : Int32} (hin : ¬ (i < 0 ∨ n ≤ ix i)) (hdg : decode cc pc = .ok (.bastore, 1))
    (kk : ∀ (H : Heap) (locs : List Loc), va_P D vwCl (wd ad cy g (pI M a (ix i) (vp_nar .byte x))) H → va_D A (wd ad cy g (pI M a (ix i) (vp_nar .byte x))) → WT g (pI M a (ix i) (vp_nar .byte x)) → va_S A H0 H locs → W p l e R s m args below meth c H locs cells slots Q (F0 m (pc + 1) ls rest)) : W p l e R s m args below meth c H locs cells slots Q (F0 m pc ls (.int x :: .int i :: .ref (ad a) :: rest)) := by
  obtain ⟨q0, hq0, hq⟩ := wd_ar (cy := cy) (M := M) ha (by decide)
  have e := wd_st (M' := pI M a (ix i) (vp_nar .byte x)) (x := .inl (upd (gI M a) (ix i) (vp_nar .byte x))) hD ha (by decide) hq0 (by rw [upd_eq]; show Sum.inl _ = Sum.inl _; congr 1; exact up2_rowS M.1 a (ix i) _) (fun b h => up2_row _ _ h) (fun _ _ => rfl) (fun _ _ => rfl)
  refine va_bast hx hb hK hP hD hS q0 0 hq rfl hin hdg (fun H1 locs1 hP1 hD1 hS1 => ?_)
  rw [e] at hP1 hD1
  exact kk H1 locs1 hP1 hD1 (hT.same rfl) hS1
theorem r_zast (hx : p.tables.exec = Jvm.exec) (hb : c.code = cc) (hK : va_K D vwCl (tyL cy) s) (hP : va_P D vwCl (wd ad cy g M) H) (hD : va_D A (wd ad cy g M)) (hT : WT g M) (hS : va_S A H0 H locs) {a n : Nat} (ha : ok g a 17 n) {i x : Int32} (hin : ¬ (i < 0 ∨ n ≤ ix i)) (hz : zb x) (hdg : decode cc pc = .ok (.bastore, 1))
    (kk : ∀ (H : Heap) (locs : List Loc), va_P D vwCl (wd ad cy g (pI M a (ix i) x)) H → va_D A (wd ad cy g (pI M a (ix i) x)) → WT g (pI M a (ix i) x) → va_S A H0 H locs → W p l e R s m args below meth c H locs cells slots Q (F0 m (pc + 1) ls rest)) : W p l e R s m args below meth c H locs cells slots Q (F0 m pc ls (.int x :: .int i :: .ref (ad a) :: rest)) := by
  obtain ⟨q0, hq0, hq⟩ := wd_ar (cy := cy) (M := M) ha (by decide)
  have e := wd_st (M' := pI M a (ix i) x) (x := .inl (upd (gI M a) (ix i) x)) hD ha (by decide) hq0 (by rw [upd_eq]; show Sum.inl _ = Sum.inl _; congr 1; exact up2_rowS M.1 a (ix i) x) (fun b h => up2_row _ _ h) (fun _ _ => rfl) (fun _ _ => rfl)
  refine va_zast hx hb hK hP hD hS q0 3 hq rfl hin hdg (fun H1 locs1 hP1 hD1 hS1 => ?_)
  rw [zb_nar hz, e] at hP1 hD1
  exact kk H1 locs1 hP1 hD1 (hT.same rfl) hS1
theorem updL_eq {f : Nat → Int64} {k : Nat} {x : Int64} : vp_updL f k x = fun j => if j = k then x else f j := rfl
theorem r_last (hx : p.tables.exec = Jvm.exec) (hb : c.code = cc) (hK : va_K D vwCl (tyL cy) s) (hP : va_P D vwCl (wd ad cy g M) H) (hD : va_D A (wd ad cy g M)) (hT : WT g M) (hS : va_S A H0 H locs) {a n : Nat} (ha : ok g a 16 n) {i : Int32} {x : Int64} (hin : ¬ (i < 0 ∨ n ≤ ix i)) (hdg : decode cc pc = .ok (.lastore, 1))
    (kk : ∀ (H : Heap) (locs : List Loc), va_P D vwCl (wd ad cy g (pL M a (ix i) x)) H → va_D A (wd ad cy g (pL M a (ix i) x)) → WT g (pL M a (ix i) x) → va_S A H0 H locs → W p l e R s m args below meth c H locs cells slots Q (F0 m (pc + 1) ls rest)) : W p l e R s m args below meth c H locs cells slots Q (F0 m pc ls (.long x :: .int i :: .ref (ad a) :: rest)) := by
  obtain ⟨q0, hq0, hq⟩ := wd_ar (cy := cy) (M := M) ha (by decide)
  have e := wd_st (M' := pL M a (ix i) x) (x := .inr (.inl (vp_updL (gL M a) (ix i) x))) hD ha (by decide) hq0 (by rw [updL_eq]; show Sum.inr (Sum.inl _) = Sum.inr (Sum.inl _); congr 2; exact up2_rowS M.2.1 a (ix i) x) (fun _ _ => rfl) (fun b h => up2_row _ _ h) (fun _ _ => rfl)
  refine va_last hx hb hK hP hD hS q0 2 hq rfl hin hdg (fun H1 locs1 hP1 hD1 hS1 => ?_)
  rw [e] at hP1 hD1
  exact kk H1 locs1 hP1 hD1 (hT.same rfl) hS1
/-- the static tables -/
theorem r_sget (hx : p.tables.exec = Jvm.exec) (hb : c.code = cc) (hG : SF q A s s.heap) (hS : va_S A s.heap H locs) {own C n : String} {index t : Nat} (hown : s.vm.findClass own = some m.cls) (ht : t < 7) (hn : ((stA.getD t ("", "", [])).1, (stA.getD t ("", "", [])).2.1) = (C, n)) (hlink : (Cond.fieldLink own index C n "[I").before args s = true) (hdg : decode cc pc = .ok (.getstatic index, 3))
    (kk : W p l e R s m args below meth c H locs cells slots Q (F0 m (pc + 3) ls (.ref (q.1 t) :: rest))) : W p l e R s m args below meth c H locs cells slots Q (F0 m pc ls rest) := by
  have h := (hG.1 t ht).1
  cases hn
  exact va_gets hx hb h hS hown hlink (fun _ h => h) hdg kk
theorem r_sgetN (hx : p.tables.exec = Jvm.exec) (hb : c.code = cc) (hG : SF q A s s.heap) (hS : va_S A s.heap H locs) {own C n host : String} {index t : Nat} (hown : s.vm.findClass own = some m.cls) (ht : t < 7) (hn : ((stA.getD t ("", "", [])).1, (stA.getD t ("", "", [])).2.1) = (C, n)) (hlink : va_Nw (.fieldLinkNest own index C n "[I" host) s) (hdg : decode cc pc = .ok (.getstatic index, 3))
    (kk : W p l e R s m args below meth c H locs cells slots Q (F0 m (pc + 3) ls (.ref (q.1 t) :: rest))) : W p l e R s m args below meth c H locs cells slots Q (F0 m pc ls rest) := by
  have h := (hG.1 t ht).1
  cases hn
  exact va_getsN hx hb h hS hown (hlink.use rfl) (fun _ h => h) hdg kk
theorem r_sald (hx : p.tables.exec = Jvm.exec) (hb : c.code = cc) (hG : SF q A s s.heap) (hS : va_S A s.heap H locs) {t : Nat} (ht : t < 7) {i : Int32} (hin : ¬ (i < 0 ∨ stl t ≤ ix i)) (hdg : decode cc pc = .ok (.iaload, 1))
    (kk : W p l e R s m args below meth c H locs cells slots Q (F0 m (pc + 1) ls (.int (stv t (ix i)) :: rest))) : W p l e R s m args below meth c H locs cells slots Q (F0 m pc ls (.int i :: .ref (q.1 t) :: rest)) :=
  va_ti hx hb (hG.1 t ht).2 hS hin rfl hdg kk
theorem r_slen (hx : p.tables.exec = Jvm.exec) (hb : c.code = cc) (hG : SF q A s s.heap) (hS : va_S A s.heap H locs) {t : Nat} (ht : t < 7) (hdg : decode cc pc = .ok (.arraylength, 1))
    (kk : W p l e R s m args below meth c H locs cells slots Q (F0 m (pc + 1) ls (.int (nI (stl t)) :: rest))) : W p l e R s m args below meth c H locs cells slots Q (F0 m pc ls (.ref (q.1 t) :: rest)) :=
  va_tlen hx hb (hG.1 t ht).2 hS rfl hdg kk
theorem r_ldcS (hx : p.tables.exec = Jvm.exec) (hb : c.code = cc) (hG : SF q A s s.heap) {own tx : String} {index i : Nat} (hown : s.vm.findClass own = some m.cls) (hi : (own, index, tx, i) ∈ ldT) (hdg : decode cc pc = .ok (.ldc index, 2))
    (kk : W p l e R s m args below meth c H locs cells slots Q (F0 m (pc + 2) ls (.ref (q.2.1 i) :: rest))) : W p l e R s m args below meth c H locs cells slots Q (F0 m pc ls rest) :=
  va_ldcS hx hb hown (hG.2.2.2.2.1 _ hi) hdg kk
/-- the ends -/
theorem r_iret (hx : p.tables.exec = Jvm.exec) (hb : c.code = cc) (hr : meth.sig.returnType = some .int) (hlocks : meth.locks = false) (hP : va_P D vwCl (wd ad cy g M) H) (hK : va_K D vwCl (tyL cy) s) (hD : va_D A (wd ad cy g M)) (hT : WT g M) (hG : SF q A s s.heap) (hS : va_S A s.heap H locs) {v Z : Int32} {M' : MM} (hv : v = Z) (hM : M = M') (hdg : decode cc pc = .ok (.ireturn, 1)) :
    W p l e R s m args below meth c H locs 0 0 (MQ below (va_Qi (fun r u => r = Z ∧ u = M') (Wd D ad cy A g q) A) args s 0 0 A) (F0 m pc ls [.int v]) := by
  subst hv; subst hM
  exact W.iret hx hb hr (fun t ht hW => ⟨⟨v, M, rfl, ⟨rfl, rfl⟩, Wd.at hP hK hD hT hG hS hW ht⟩, hS.F ht⟩) hS.2.2 hdg
theorem r_zret (hx : p.tables.exec = Jvm.exec) (hb : c.code = cc) (hr : meth.sig.returnType = some .boolean) (hlocks : meth.locks = false) (hP : va_P D vwCl (wd ad cy g M) H) (hK : va_K D vwCl (tyL cy) s) (hD : va_D A (wd ad cy g M)) (hT : WT g M) (hG : SF q A s s.heap) (hS : va_S A s.heap H locs) {v Z : Int32} {M' : MM} (hz : zb v) (hv : v = Z) (hM : M = M') (hdg : decode cc pc = .ok (.ireturn, 1)) :
    W p l e R s m args below meth c H locs 0 0 (MQ below (va_Qi (fun r u => r = Z ∧ u = M' ∧ zb r) (Wd D ad cy A g q) A) args s 0 0 A) (F0 m pc ls [.int v]) := by
  subst hv; subst hM
  exact W.zret hx hb hr (zb_n hz) (fun t ht hW => ⟨⟨v, M, rfl, ⟨rfl, rfl, hz⟩, Wd.at hP hK hD hT hG hS hW ht⟩, hS.F ht⟩) hS.2.2 hdg
theorem r_lret (hx : p.tables.exec = Jvm.exec) (hb : c.code = cc) (hr : meth.sig.returnType = some .long) (hlocks : meth.locks = false) (hP : va_P D vwCl (wd ad cy g M) H) (hK : va_K D vwCl (tyL cy) s) (hD : va_D A (wd ad cy g M)) (hT : WT g M) (hG : SF q A s s.heap) (hS : va_S A s.heap H locs) {v Z : Int64} {M' : MM} (hv : v = Z) (hM : M = M') (hdg : decode cc pc = .ok (.lreturn, 1)) :
    W p l e R s m args below meth c H locs 0 0 (MQ below (va_Ql (fun r u => r = Z ∧ u = M') (Wd D ad cy A g q) A) args s 0 0 A) (F0 m pc ls [.long v]) := by
  subst hv; subst hM
  exact W.lret hx hb hr (fun t ht hW => ⟨⟨v, M, rfl, ⟨rfl, rfl⟩, Wd.at hP hK hD hT hG hS hW ht⟩, hS.F ht⟩) hS.2.2 hdg
theorem r_vret (hx : p.tables.exec = Jvm.exec) (hb : c.code = cc) (hr : meth.sig.returnType = none) (hlocks : meth.locks = false) (hP : va_P D vwCl (wd ad cy g M) H) (hK : va_K D vwCl (tyL cy) s) (hD : va_D A (wd ad cy g M)) (hT : WT g M) (hG : SF q A s s.heap) (hS : va_S A s.heap H locs) {M' : MM} (hM : M = M') (hdg : decode cc pc = .ok (.return_, 1)) :
    W p l e R s m args below meth c H locs 0 0 (MQ below (va_Qv (fun u => u = M') (Wd D ad cy A g q) A) args s 0 0 A) (F0 m pc ls []) := by
  subst hM
  exact W.vret hx hb hr (fun t ht hW => ⟨⟨M, rfl, rfl, Wd.at hP hK hD hT hG hS hW ht⟩, hS.F ht⟩) hS.2.2 hdg
theorem r_aret (hx : p.tables.exec = Jvm.exec) (hb : c.code = cc) {n : String} (hr : meth.sig.returnType = some (.object n)) (hlocks : meth.locks = false) (hP : va_P D vwCl (wd ad cy g M) H) (hK : va_K D vwCl (tyL cy) s) (hD : va_D A (wd ad cy g M)) (hT : WT g M) (hG : SF q A s s.heap) (hS : va_S A s.heap H locs) {v : Value} {Z : Option Nat} {M' : MM} {t0 : Nat} (hv : v = va_rf (Z.map ad)) (hM : M = M') (hk : ∀ b, Z = some b → ok g b t0 0) (hdg : decode cc pc = .ok (.areturn, 1)) :
    W p l e R s m args below meth c H locs 0 0 (MQ below (va_Qq (fun r u => r = Z.map ad ∧ u = M' ∧ ∀ b, Z = some b → ok g b t0 0) (Wd D ad cy A g q) A) args s 0 0 A) (F0 m pc ls [v]) := by
  subst hv; subst hM
  exact W.aret (rt := .object n) hx hb hr (Or.inl ⟨n, rfl⟩) (by cases Z <;> simp [va_rf]) (fun t ht hW => ⟨⟨Z.map ad, M, rfl, ⟨rfl, rfl, hk⟩, Wd.at hP hK hD hT hG hS hW ht⟩, hS.F ht⟩) hS.2.2 hdg
end ROWS
