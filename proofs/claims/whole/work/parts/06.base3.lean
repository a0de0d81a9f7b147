/-! CALLS: the whole world goes in and comes out -/
section CALLS
variable {p : Program} {l : Launch} {e : Env} {R : Room} {s : State} {m : MethodId} {args : Array Value} {below : List Frame} {meth : Method} {c : Code} {H : Heap} {locs : List Loc} {Q : State → Prop}
variable {pc : Nat} {ls : Array Slot} {rest st0 : List Value} {a : Array Value} {D : va_G} {ad : Nat → Nat} {cy : Nat → ClassId} {A : Nat → Prop} {g : CG} {q : SE} {M M' : MM}
theorem pV {b ci z N : Nat} {As : List Value} {C : String} {T : u_T} (hP : va_P D vwCl (wd ad cy g M) H) (hK : va_K D vwCl (tyL cy) s) (hD : va_D A (wd ad cy g M)) (hT : WT g M) (hG : SF q A s s.heap) (hS : va_S A s.heap H locs) (ha : ok g b ci z) (hci : ci < 14) (hc : vwCl[ci]? = some (C, T, N)) : PreV s H C (ad b) (va_Pc (.ref (ad b) :: As) (Wd D ad cy A g q M)) As := by
  refine ⟨Wd.blind, ?_, fun U hU hW => ⟨rfl, Wd.at hP hK hD hT hG hS hW hU⟩⟩
  obtain ⟨q0, hq⟩ := wd_at (cy := cy) (M := M) ha.1
  rw [ent_ob ha.2.1 hci] at hq
  exact va_recv hK hP hc hq
theorem pT {i : Nat} {As : List Value} (hP : va_P D vwCl (wd ad cy g M) H) (hK : va_K D vwCl (tyL cy) s) (hD : va_D A (wd ad cy g M)) (hT : WT g M) (hG : SF q A s s.heap) (hS : va_S A s.heap H locs) (hi : i < nS) : PreV s H "java/lang/String" (q.2.1 i) (va_Pc (.ref (q.2.1 i) :: As) (Wd D ad cy A g q M)) As :=
  ⟨Wd.blind, vk_recv hG.2.2.2.1 hi hS, fun U hU hW => ⟨rfl, Wd.at hP hK hD hT hG hS hW hU⟩⟩
theorem pS {As : List Value} (hP : va_P D vwCl (wd ad cy g M) H) (hK : va_K D vwCl (tyL cy) s) (hD : va_D A (wd ad cy g M)) (hT : WT g M) (hG : SF q A s s.heap) (hS : va_S A s.heap H locs) : PreS s H (va_Pc As (Wd D ad cy A g q M)) As :=
  ⟨Wd.blind, fun U hU hW => ⟨rfl, Wd.at hP hK hD hT hG hS hW hU⟩⟩
theorem k_i {Z : Int32} (hr : va_Run p l e R s m args below meth c H locs 0 0 0 0 (F0 m pc ls st0) rest (va_Qi (fun r u => r = Z ∧ u = M') (Wd D ad cy A g q) A a) A) (hS : va_S A s.heap H locs)
    (kk : ∀ (H : Heap) (locs : List Loc), va_P D vwCl (wd ad cy g M') H → va_D A (wd ad cy g M') → WT g M' → va_S A s.heap H locs → W p l e R s m args below meth c H locs 0 0 Q (F0 m (pc + 3) ls (.int Z :: rest))) : W p l e R s m args below meth c H locs 0 0 Q (F0 m pc ls st0) := by
  refine va_calli hr hS (fun _ _ h => h) (fun _ h => h) (fun r u t H1 locs1 ht hvm hw hB hz1 hk1 hS1 => ?_)
  obtain ⟨rfl, rfl⟩ := hw
  obtain ⟨hP1, -, hD1, hT1, -⟩ := hB
  rw [ht] at hP1
  exact kk H1 locs1 hP1 hD1 hT1 hS1
theorem k_z {Z : Int32} (hr : va_Run p l e R s m args below meth c H locs 0 0 0 0 (F0 m pc ls st0) rest (va_Qi (fun r u => r = Z ∧ u = M' ∧ zb r) (Wd D ad cy A g q) A a) A) (hS : va_S A s.heap H locs)
    (kk : ∀ (H : Heap) (locs : List Loc), zb Z → va_P D vwCl (wd ad cy g M') H → va_D A (wd ad cy g M') → WT g M' → va_S A s.heap H locs → W p l e R s m args below meth c H locs 0 0 Q (F0 m (pc + 3) ls (.int Z :: rest))) : W p l e R s m args below meth c H locs 0 0 Q (F0 m pc ls st0) := by
  refine va_calli hr hS (fun _ _ h => h) (fun _ h => h) (fun r u t H1 locs1 ht hvm hw hB hz1 hk1 hS1 => ?_)
  obtain ⟨rfl, rfl, hz⟩ := hw
  obtain ⟨hP1, -, hD1, hT1, -⟩ := hB
  rw [ht] at hP1
  exact kk H1 locs1 hz hP1 hD1 hT1 hS1
theorem k_c {Z : Int32} (hr : va_Run p l e R s m args below meth c H locs 0 0 0 0 (F0 m pc ls st0) rest (va_Qi (fun r u => r = Z ∧ u = M' ∧ narrow .char (.int r) = .int r) (Wd D ad cy A g q) A a) A) (hS : va_S A s.heap H locs)
    (kk : ∀ (H : Heap) (locs : List Loc), narrow .char (.int Z) = .int Z → va_P D vwCl (wd ad cy g M') H → va_D A (wd ad cy g M') → WT g M' → va_S A s.heap H locs → W p l e R s m args below meth c H locs 0 0 Q (F0 m (pc + 3) ls (.int Z :: rest))) : W p l e R s m args below meth c H locs 0 0 Q (F0 m pc ls st0) := by
  refine va_calli hr hS (fun _ _ h => h) (fun _ h => h) (fun r u t H1 locs1 ht hvm hw hB hz1 hk1 hS1 => ?_)
  obtain ⟨rfl, rfl, hz⟩ := hw
  obtain ⟨hP1, -, hD1, hT1, -⟩ := hB
  rw [ht] at hP1
  exact kk H1 locs1 hz hP1 hD1 hT1 hS1
theorem k_l {Z : Int64} (hr : va_Run p l e R s m args below meth c H locs 0 0 0 0 (F0 m pc ls st0) rest (va_Ql (fun r u => r = Z ∧ u = M') (Wd D ad cy A g q) A a) A) (hS : va_S A s.heap H locs)
    (kk : ∀ (H : Heap) (locs : List Loc), va_P D vwCl (wd ad cy g M') H → va_D A (wd ad cy g M') → WT g M' → va_S A s.heap H locs → W p l e R s m args below meth c H locs 0 0 Q (F0 m (pc + 3) ls (.long Z :: rest))) : W p l e R s m args below meth c H locs 0 0 Q (F0 m pc ls st0) := by
  refine va_calll hr hS (fun _ _ h => h) (fun _ h => h) (fun r u t H1 locs1 ht hvm hw hB hz1 hk1 hS1 => ?_)
  obtain ⟨rfl, rfl⟩ := hw
  obtain ⟨hP1, -, hD1, hT1, -⟩ := hB
  rw [ht] at hP1
  exact kk H1 locs1 hP1 hD1 hT1 hS1
theorem k_v (hr : va_Run p l e R s m args below meth c H locs 0 0 0 0 (F0 m pc ls st0) rest (va_Qv (fun u => u = M') (Wd D ad cy A g q) A a) A) (hS : va_S A s.heap H locs)
    (kk : ∀ (H : Heap) (locs : List Loc), va_P D vwCl (wd ad cy g M') H → va_D A (wd ad cy g M') → WT g M' → va_S A s.heap H locs → W p l e R s m args below meth c H locs 0 0 Q (F0 m (pc + 3) ls rest)) : W p l e R s m args below meth c H locs 0 0 Q (F0 m pc ls st0) := by
  refine va_callv hr hS (fun _ _ h => h) (fun _ h => h) (fun u t H1 locs1 ht hvm hw hB hz1 hk1 hS1 => ?_)
  obtain rfl := hw
  obtain ⟨hP1, -, hD1, hT1, -⟩ := hB
  rw [ht] at hP1
  exact kk H1 locs1 hP1 hD1 hT1 hS1
theorem k_q {Z : Option Nat} {t0 : Nat} (hr : va_Run p l e R s m args below meth c H locs 0 0 0 0 (F0 m pc ls st0) rest (va_Qq (fun r u => r = Z.map ad ∧ u = M' ∧ ∀ b, Z = some b → ok g b t0 0) (Wd D ad cy A g q) A a) A) (hS : va_S A s.heap H locs)
    (kk : ∀ (H : Heap) (locs : List Loc), (∀ b, Z = some b → ok g b t0 0) → va_P D vwCl (wd ad cy g M') H → va_D A (wd ad cy g M') → WT g M' → va_S A s.heap H locs → W p l e R s m args below meth c H locs 0 0 Q (F0 m (pc + 3) ls (va_rf (Z.map ad) :: rest))) : W p l e R s m args below meth c H locs 0 0 Q (F0 m pc ls st0) := by
  refine va_callq hr hS (fun _ _ h => h) (fun _ h => h) (fun r u t H1 locs1 ht hvm hw hB hz1 hk1 hS1 => ?_)
  obtain ⟨rfl, rfl, hz⟩ := hw
  obtain ⟨hP1, -, hD1, hT1, -⟩ := hB
  rw [ht] at hP1
  exact kk H1 locs1 hz hP1 hD1 hT1 hS1
/-- the texts: fields, bytes -/
theorem r_sval {cc : ByteArray} (hx : p.tables.exec = Jvm.exec) (hb : c.code = cc) (hG : SF q A s s.heap) (hS : va_S A s.heap H locs) {own : String} {index i : Nat} {cells slots : Nat} (hown : s.vm.findClass own = some m.cls) (hi : i < nS) (hlink : (Cond.fieldLink own index "java/lang/String" "value" "[B").before args s = true) (hdg : decode cc pc = .ok (.getfield index, 3))
    (kk : W p l e R s m args below meth c H locs cells slots Q (F0 m (pc + 3) ls (.ref (q.2.2 i) :: rest))) : W p l e R s m args below meth c H locs cells slots Q (F0 m pc ls (.ref (q.2.1 i) :: rest)) :=
  vk_getf hx hb (hG.2.2.2.1.1 i hi).2.2.1 hS hown hlink (fun _ h => h) hdg kk
theorem r_scod {cc : ByteArray} (hx : p.tables.exec = Jvm.exec) (hb : c.code = cc) (hG : SF q A s s.heap) (hS : va_S A s.heap H locs) {own : String} {index i : Nat} {cells slots : Nat} (hown : s.vm.findClass own = some m.cls) (hi : i < nS) (hlink : (Cond.fieldLink own index "java/lang/String" "coder" "B").before args s = true) (hdg : decode cc pc = .ok (.getfield index, 3))
    (kk : W p l e R s m args below meth c H locs cells slots Q (F0 m (pc + 3) ls (.int 0 :: rest))) : W p l e R s m args below meth c H locs cells slots Q (F0 m pc ls (.ref (q.2.1 i) :: rest)) :=
  vk_getf hx hb (hG.2.2.2.1.1 i hi).2.1 hS hown hlink (fun _ h => h) hdg kk
theorem r_tlen {cc : ByteArray} (hx : p.tables.exec = Jvm.exec) (hb : c.code = cc) (hG : SF q A s s.heap) (hS : va_S A s.heap H locs) {i : Nat} {cells slots : Nat} (hi : i < nS) (hdg : decode cc pc = .ok (.arraylength, 1))
    (kk : W p l e R s m args below meth c H locs cells slots Q (F0 m (pc + 1) ls (.int (nI (lenS.getD i 0)) :: rest))) : W p l e R s m args below meth c H locs cells slots Q (F0 m pc ls (.ref (q.2.2 i) :: rest)) :=
  va_tlen hx hb (hG.2.2.2.1.1 i hi).2.2.2 hS rfl hdg kk
theorem r_tbal {cc : ByteArray} (hx : p.tables.exec = Jvm.exec) (hb : c.code = cc) (hG : SF q A s s.heap) (hS : va_S A s.heap H locs) {i : Nat} {cells slots : Nat} (hi : i < nS) {j : Int32} (hin : ¬ (j < 0 ∨ lenS.getD i 0 ≤ ix j)) (hdg : decode cc pc = .ok (.baload, 1))
    (kk : W p l e R s m args below meth c H locs cells slots Q (F0 m (pc + 1) ls (.int ((bytS.getD i []).getD (ix j) 0) :: rest))) : W p l e R s m args below meth c H locs cells slots Q (F0 m pc ls (.int j :: .ref (q.2.2 i) :: rest)) :=
  va_tb hx hb (hG.2.2.2.1.1 i hi).2.2.2 hS hin rfl hdg kk
theorem r_comp {cc : ByteArray} (hx : p.tables.exec = Jvm.exec) (hb : c.code = cc) (hG : SF q A s s.heap) (hS : va_S A s.heap H locs) {own : String} {index : Nat} {cells slots : Nat} (hown : s.vm.findClass own = some m.cls) (hlink : (Cond.fieldLink own index "java/lang/String" "COMPACT_STRINGS" "Z").before args s = true) (hdg : decode cc pc = .ok (.getstatic index, 3))
    (kk : W p l e R s m args below meth c H locs cells slots Q (F0 m (pc + 3) ls (.int 1 :: rest))) : W p l e R s m args below meth c H locs cells slots Q (F0 m pc ls rest) :=
  va_gets hx hb hG.2.2.2.2.2.1 hS hown hlink (fun _ h => h) hdg kk
theorem r_sioo {cc : ByteArray} (hx : p.tables.exec = Jvm.exec) (hb : c.code = cc) (hG : SF q A s s.heap) (hS : va_S A s.heap H locs) {own : String} {index : Nat} {cells slots : Nat} (hown : s.vm.findClass own = some m.cls) (hlink : (Cond.fieldLink own index "jdk/internal/util/Preconditions" "SIOOBE_FORMATTER" "Ljava/util/function/BiFunction;").before args s = true) (hdg : decode cc pc = .ok (.getstatic index, 3))
    (kk : ∀ r : Option Nat, W p l e R s m args below meth c H locs cells slots Q (F0 m (pc + 3) ls (va_rf r :: rest))) : W p l e R s m args below meth c H locs cells slots Q (F0 m pc ls rest) := by
  rcases hG.2.2.2.2.2.2.1 with h | ⟨t, h⟩
  · exact va_gets hx hb h hS hown hlink (fun _ h => h) hdg (kk none)
  · exact va_gets hx hb h hS hown hlink (fun _ h => h) hdg (kk (some t))
theorem r_ldcSw {cc : ByteArray} (hx : p.tables.exec = Jvm.exec) (hb : c.code = cc) (hG : SF q A s s.heap) {own tx : String} {index i : Nat} {cells slots : Nat} (hown : s.vm.findClass own = some m.cls) (hi : (own, index, tx, i) ∈ ldT) (hdg : decode cc pc = .ok (.ldc_w index, 3))
    (kk : W p l e R s m args below meth c H locs cells slots Q (F0 m (pc + 3) ls (.ref (q.2.1 i) :: rest))) : W p l e R s m args below meth c H locs cells slots Q (F0 m pc ls rest) := by
  have hZ := hG.2.2.2.2.1 _ hi
  intro T hT X
  obtain ⟨t, a1, b1⟩ := kk T hT X
  exact ⟨t, X.ldcStringW hx hown (text := tx) (a := q.2.1 i) hZ.1 hZ.2 (g := F0 m pc ls rest) rfl (by rw [hb]; exact hdg) t a1, b1⟩
theorem r_bret {cc : ByteArray} (hx : p.tables.exec = Jvm.exec) (hb : c.code = cc) {ty : FieldType} (hr : meth.sig.returnType = some ty) (hlocks : meth.locks = false) (hP : va_P D vwCl (wd ad cy g M) H) (hK : va_K D vwCl (tyL cy) s) (hD : va_D A (wd ad cy g M)) (hT : WT g M) (hG : SF q A s s.heap) (hS : va_S A s.heap H locs) {v Z : Int32} (hn : narrow ty (.int v) = .int v) (hv : v = Z) (hM : M = M') (hdg : decode cc pc = .ok (.ireturn, 1)) :
    W p l e R s m args below meth c H locs 0 0 (MQ below (va_Qi (fun r u => r = Z ∧ u = M') (Wd D ad cy A g q) A) args s 0 0 A) (F0 m pc ls [.int v]) := by
  subst hv; subst hM
  exact W.zret hx hb hr hn (fun t ht hW => ⟨⟨v, M, rfl, ⟨rfl, rfl⟩, Wd.at hP hK hD hT hG hS hW ht⟩, hS.F ht⟩) hS.2.2 hdg
theorem r_cret {cc : ByteArray} (hx : p.tables.exec = Jvm.exec) (hb : c.code = cc) (hr : meth.sig.returnType = some .char) (hlocks : meth.locks = false) (hP : va_P D vwCl (wd ad cy g M) H) (hK : va_K D vwCl (tyL cy) s) (hD : va_D A (wd ad cy g M)) (hT : WT g M) (hG : SF q A s s.heap) (hS : va_S A s.heap H locs) {v Z : Int32} (hn : narrow .char (.int v) = .int v) (hv : v = Z) (hM : M = M') (hdg : decode cc pc = .ok (.ireturn, 1)) :
    W p l e R s m args below meth c H locs 0 0 (MQ below (va_Qi (fun r u => r = Z ∧ u = M' ∧ narrow .char (.int r) = .int r) (Wd D ad cy A g q) A) args s 0 0 A) (F0 m pc ls [.int v]) := by
  subst hv; subst hM
  exact W.zret hx hb hr hn (fun t ht hW => ⟨⟨v, M, rfl, ⟨rfl, rfl, hn⟩, Wd.at hP hK hD hT hG hS hW ht⟩, hS.F ht⟩) hS.2.2 hdg
end CALLS
theorem sw_lt {x : Int32} {lo hi : Int} (h : x.toInt < lo ∨ hi < x.toInt) : x.toInt < lo ∨ hi < x.toInt := h
theorem ch_nar (x : Int32) : narrow .char (.int (x.toUInt32 % 65536).toInt32) = .int (x.toUInt32 % 65536).toInt32 := by
  show Value.int _ = Value.int _
  congr 1
  have h : ((x.toUInt32 % 65536).toInt32.toUInt32.toUInt16.toUInt32).toInt32 = (x.toUInt32 % 65536).toInt32 := by
    rw [UInt32.toUInt32_toInt32]
    congr 1
    apply UInt32.toNat_inj.mp
    simp
  exact h
