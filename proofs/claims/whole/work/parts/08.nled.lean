/-! LED: thrown by the class, caught by the law's helper -/
section LEDB
variable {p : Program} {l : Launch} {e : Env} {R : Room} {s : State} {m : MethodId} {args : Array Value} {below : List Frame} {meth : Method} {c : Code} {H : Heap} {locs : List Loc} {cells slots : Nat} {Q : State → Prop}
variable {cc : ByteArray} {pc : Nat} {ls : Array Slot} {rest : List Value} {D : va_G} {ad : Nat → Nat} {cy : Nat → ClassId} {A : Nat → Prop} {g : CG} {q : SE} {M M' : MM} {H0 : Heap}
theorem r_iretD {mc ms : Nat} (hx : p.tables.exec = Jvm.exec) (hb : c.code = cc) (hr : meth.sig.returnType = some .int) (hlocks : meth.locks = false) (hP : va_P D vwCl (wd ad cy g M) H) (hK : va_K D vwCl (tyL cy) s) (hD : va_D A (wd ad cy g M)) (hT : WT g M) (hG : SF q A s s.heap) (hS : va_S A s.heap H locs) {v Z : Int32} (hne : ¬ v = -1) (hv : v = Z) (hM : M = M') (hdg : decode cc pc = .ok (.ireturn, 1)) :
    W p l e R s m args below meth c H locs mc ms (MQ below (va_Qi (fun r u => r = Z ∧ u = M' ∧ ¬ Z = -1) (Wd D ad cy A g q) A) args s mc ms A) (F0 m pc ls [.int v]) := by
  subst hv; subst hM
  exact W.iret hx hb hr (fun t ht hW => ⟨⟨v, M, rfl, ⟨rfl, rfl, hne⟩, Wd.at hP hK hD hT hG hS hW ht⟩, hS.F ht⟩) hS.2.2 hdg
/-- what a throw needs beside the tables' words -/
def LXT (A : Nat → Prop) (U : State) (H : Heap) : Prop := vx_Zq Bundle.tN "UNASSIGNED_STACK" Bundle.steD A U H ∧ vx_Zq Bundle.tN "SUPPRESSED_SENTINEL" Bundle.listD A U H ∧
  va_Nw (.declares (Bundle.init0 "java/lang/RuntimeException")) U ∧ va_Nw (.declares (Bundle.init0 "java/lang/Exception")) U ∧ va_Nw (.declares (Bundle.init0 Bundle.tN)) U ∧ va_Nw (.castable "java/util/NoSuchElementException" "java/util/NoSuchElementException") U
def ledB : List Cond := [.declares (Bundle.init0 "java/lang/RuntimeException"), .declares (Bundle.init0 "java/lang/Exception"), .declares (Bundle.init0 Bundle.tN), .castable "java/util/NoSuchElementException" "java/util/NoSuchElementException"]
theorem ledB_in : ∀ w ∈ (vx_at0 RX11 334 "java/util/NoSuchElementException" ["java/lang/RuntimeException", "java/lang/Exception"]).filter (fun w => !goodWord w), w ∈ ledB := by decide +kernel
theorem led_good : ∀ w ∈ Cond.classLink RX11 332 "java/util/NoSuchElementException" :: Cond.initialized "java/util/NoSuchElementException" :: vx_at0 RX11 334 "java/util/NoSuchElementException" ["java/lang/RuntimeException", "java/lang/Exception"], vx_ot w = true := by decide +kernel
theorem LXT.words {A : Nat → Prop} {args : Array Value} {U : State} {H : Heap} (h : LXT A U H) : ∀ w ∈ ledB, w.before args U = true := by
  obtain ⟨-, -, h1, h2, h3, h4⟩ := h
  exact vx_c (va_Nw.use (A := args) rfl h1) (vx_c (va_Nw.use (A := args) rfl h2) (vx_c (va_Nw.use (A := args) rfl h3) (vx_c (va_Nw.use (A := args) rfl h4) vx_n)))
theorem LXT.go {s U : State} {H : Heap} {locs : List Loc} (h : LXT A s s.heap) (hS : va_S A s.heap H locs) (hW : s.WarmedH U.vm) : LXT A U H := by
  obtain ⟨h1, h2, h3, h4, h5, h6⟩ := h
  exact ⟨(h1.moved hW.alike).kept hS.2.1, (h2.moved hW.alike).kept hS.2.1, va_Nw.warmD hW h3, va_Nw.warmD hW h4, va_Nw.warmD hW h5, va_Nw.warmC hW h6⟩
theorem LXT.narrow {A B : Nat → Prop} {U : State} {H : Heap} (h : LXT A U H) (hAB : ∀ z, B z → A z) : LXT B U H := ⟨h.1.narrow hAB, h.2.1.narrow hAB, h.2.2⟩
/-- a world that a throw left -/
def LB (D : va_G) (ad : Nat → Nat) (cy : Nat → ClassId) (A : Nat → Prop) (g : CG) (E : String) (u : MM) (t : State) : Prop := E = "java/util/NoSuchElementException" ∧ va_P D vwCl (wd ad cy g u) t.heap ∧ va_D A (wd ad cy g u) ∧ WT g u
theorem WdL.blind {av : List Value} : FrameBlind (va_Pc av (fun U => Wd D ad cy A g q M U ∧ LXT A U U.heap)) := by
  intro a U fr mk h
  obtain ⟨e, h1, h2, h3, h4, h5, h6, h7⟩ := h
  have := Wd.blind (av := av) a U fr mk ⟨e, h1⟩
  have hv : U.vm.Alike (U.calling fr mk a).vm := Vm.Alike.refl U.vm
  exact ⟨this.1, this.2, h2.moved hv, h3.moved hv, va_Nw.same rfl rfl h4, va_Nw.same rfl rfl h5, va_Nw.same rfl rfl h6, va_Nw.same rfl rfl h7⟩
theorem pVL {b ci z N : Nat} {As : List Value} {C : String} {T : u_T} (hP : va_P D vwCl (wd ad cy g M) H) (hK : va_K D vwCl (tyL cy) s) (hD : va_D A (wd ad cy g M)) (hT : WT g M) (hG : SF q A s s.heap) (hX : LXT A s s.heap) (hS : va_S A s.heap H locs) (ha : ok g b ci z) (hci : ci < 14) (hc : vwCl[ci]? = some (C, T, N)) : PreV s H C (ad b) (va_Pc (.ref (ad b) :: As) (fun U => Wd D ad cy A g q M U ∧ LXT A U U.heap)) As := by
  refine ⟨WdL.blind, ?_, fun U hU hW => ⟨rfl, Wd.at hP hK hD hT hG hS hW hU, by rw [hU]; exact hX.go hS hW⟩⟩
  obtain ⟨q0, hq⟩ := wd_at (cy := cy) (M := M) ha.1
  rw [ent_ob ha.2.1 hci] at hq
  exact va_recv hK hP hc hq
/-- a method with a table of handlers that answers -/
theorem metH {y : MethodName} {ws ws' : List Cond} {rm : Room} {Pc : Array Value → State → Prop} {Qc : Array Value → State → Outcome → State → Prop} {mc ms : Nat} {free : Addr → Prop} {cc : ByteArray} {maxL : Nat} {ret : Option FieldType} {hh : List (Nat × Nat × Nat × Nat)}
    (hy : plainName y.cls = true) (hw : ws = Cond.codeWith y cc maxL ret hh :: ws')
    (body : ∀ p e s m args below meth c s₁, BodyLoose p l y (headSpec ws rm) cc maxL ret e s m args below meth c s₁ → c.maxLocals = maxL → Pc args s →
      W p l e (headSpec ws rm).room s m args below meth c s.heap [] 0 0 (MQ below Qc args s mc ms free) (entryFrame m args maxL)) : Met l y ws rm Pc Qc mc ms free := by
  refine MetFree.of_bodyS (code := cc) (maxLocals := maxL) (ret := ret) hy ?_ ?_
  · intro args s m h hn
    obtain ⟨m9, meth, c, hn9, h1, h2, h3, h4, -, h5, h6, -⟩ := Cond.codeWith_spec (atoms_spec (ws := ws) h _ (by rw [hw]; exact List.mem_cons_self))
    cases hn.symm.trans hn9
    exact ⟨meth, c, h1, h2, h3, h4, h5, h6⟩
  · intro p e s m args below meth c s₁ B hml hP _
    have hh0 : s₁.heap = s.heap := by rw [B.state]; rfl
    obtain ⟨t, a1, o, b1, b2, b3⟩ := body p e s m args below meth c s₁ B hml hP s₁ hh0 (Stand.of_body B)
    exact ⟨t, o, a1, b1, b2, ⟨b3.1, b3.2⟩⟩
end LEDB
def f_X11_led (M : MM) (a0 : Nat) (x1 : Int32) (x2 : Int32) : Option Int32 :=
  oc (gR M a0 5) none (fun b1 => ob (f_X0_wayAt M b1 x1) (fun z2 => oc z2 (some (-1)) (fun b2 => oc (gR M a0 5) none (fun b4 => ob (f_X0_clearlyLaid M b4 b2 x2) (fun z5 => if z5 = (-1) then (some (-1)) else (some z5))))))
theorem hdV_X11_led : yX11_led.cls = RX11 ∧ yX11_led.cls ≠ "java/lang/invoke/MethodHandle" ∧ yX11_led.cls ≠ "java/lang/invoke/VarHandle" ∧ (parseMethodDescriptor yX11_led.desc).map (fun d => d.parameters.length) = some 2 := by decide +kernel
set_option maxHeartbeats 4000000 in
set_option maxRecDepth 100000 in
theorem c_X11_led {l : Launch} (hst : l.stackTraces = false) {D : va_G} {ad : Nat → Nat} {cy : Nat → ClassId} {A : Nat → Prop} {g : CG} {q : SE} (M : MM) (a0 : Nat) (x1 : Int32) (x2 : Int32) (k0 : ok g a0 11 0) {Z : Int32} (h : f_X11_led M a0 x1 x2 = some Z) : vx_Met l yX11_led wsX11_led ({ frames := 6, cells := 1, slots := 6, locals := 81 }) (va_Pc [.ref (ad a0), .int x1, .int x2] (fun U => Wd D ad cy A g q M U ∧ LXT A U U.heap)) (va_Qi (fun r u => r = Z ∧ u = M ∧ ¬ Z = -1) (Wd D ad cy A g q) A) (vx_X (fun u : MM => u = M ∧ Z = -1) (LB D ad cy A g) A) 1 6 A := by
  refine vx_ofW (cc := cX11_led) (maxL := 5) (ret := (some .int)) (by decide) rfl ?_
  intro p e s m args below meth c s₁ B hml hnt hv
  obtain ⟨rfl, ⟨hP, hK, hD, hT, hG⟩, hLX⟩ := hv
  have hx := B.exec
  have hb := B.bytes
  have hr := B.returns
  have hts := atoms_spec (ws := wsX11_led) B.pre
  have hown : s.vm.findClass RX11 = some m.cls := findClass_of_methodNamed B.named
  have hlocks := B.notSynchronized
  have in11 : ∀ w ∈ u_ws RX11 TX11 8, w ∈ wsX11_led := by decide +kernel
  have hS : va_S A s.heap s.heap [] := va_S.rf
  have hat : ∀ w ∈ vx_at0 RX11 334 "java/util/NoSuchElementException" ["java/lang/RuntimeException", "java/lang/Exception"], w.before (([.ref (ad a0), .int x1, .int x2] : List Value).toArray) s = true := vx_hat (B := ledB) (fun w hw => hts w (List.mem_cons_of_mem _ (List.mem_append_right _ hw))) ledB_in (LXT.words hLX)
  have hgood : ∀ w ∈ Cond.classLink RX11 332 "java/util/NoSuchElementException" :: Cond.initialized "java/util/NoSuchElementException" :: vx_at0 RX11 334 "java/util/NoSuchElementException" ["java/lang/RuntimeException", "java/lang/Exception"], vx_ot w = true := led_good
  have hl := lv_entry ([.ref (ad a0), .int x1, .int x2]) (n := 5) (Nat.le_of_ble_eq_true rfl)
  rw [lg_entry_eq]
  generalize (lg_sl ([.ref (ad a0), .int x1, .int x2]) ++ List.replicate (5 - (lg_sl ([.ref (ad a0), .int x1, .int x2])).length) Slot.unset).toArray = ls at hl ⊢
  have hl : lv_has ls 5 [(0, .ref (ad a0)), (1, .int x1), (2, .int x2)] := hl
  unfold f_X11_led at h
  refine lv_aload_n hx hb dX11_led_0 rfl (lv_at hl 0 rfl) ?_
  rcases hN1 : gR M a0 5 with _ | b1
  · exact absurd (oc_n hN1 h) (by simp)
  replace h := oc_s hN1 h
  have kb1 := hT.f k0 (k := 5) (t := 0) (n := 0) rfl hN1
  refine r_get (T := TX11) (v := .ref (ad b1)) hx hb hts in11 hown hK hP k0 (by decide) rfl 5 (by decide) (hts (.fieldLink RX11 45 "StoneWalk" "island" "LStoneWalk$Island;") (List.mem_of_getElem? (i := 3) (by decide +kernel))) rfl (t := 2) rfl (by show va_rf _ = _; rw [hN1]; rfl) dX11_led_1 ?_
  refine lv_iload_n hx hb dX11_led_4 rfl (lv_at hl 1 rfl) ?_
  obtain ⟨z2, h2, h⟩ := ob_some h
  refine k_q (va_runV (As := [.int x1]) (rest := []) ⟨hx, hb, hml, hown, hts⟩ (c_X0_wayAt (l := l) M b1 x1 kb1 h2) (cwV 1 hts gX11_led_X0_wayAt rfl rfl rfl hdV_X0_wayAt ⟨Nat.le_of_ble_eq_true rfl, Nat.le_of_ble_eq_true rfl⟩) (pV (T := TX0) hP hK hD hT hG hS kb1 (by decide) rfl) rfl rfl hl.1 rfl (lv_room (Nat.le_of_ble_eq_true rfl)) dX11_led_5 ⟨Nat.zero_le _, Nat.zero_le _⟩) hS (fun H locs hq2 hP hD hT hS => ?_)
  rcases hN2 : z2 with _ | b2
  · replace h := oc_n hN2 h
    show W _ _ _ _ _ _ _ _ _ _ _ _ _ _ _ (F0 _ _ _ (.null :: []))
    refine lv_astore_nN (lv' := [(3, .null), (0, .ref (ad a0)), (1, .int x1), (2, .int x2)]) hx hb dX11_led_8 rfl hl (by decide) rfl (fun ls hl => ?_)
    refine lv_aload_nN hx hb dX11_led_9 rfl (lv_at hl 0 rfl) ?_
    refine lv_ifnonnullN hx hb dX11_led_10 ?_
    refine lv_iconst (v := (-1)) hx hb dX11_led_13 rfl ?_
    refine lv_goto (tgt := 26) hx hb dX11_led_14 rfl ?_
    refine lv_istore (lv' := [(4, .int (-1)), (3, .null), (0, .ref (ad a0)), (1, .int x1), (2, .int x2)]) hx hb dX11_led_26 hl (by decide) rfl (fun ls hl => ?_)
    refine lv_iload hx hb dX11_led_28 (lv_at hl 0 rfl) ?_
    refine lv_iconst (v := (-1)) hx hb dX11_led_30 rfl ?_
    refine lv_icmp_ne (tgt := 42) hx hb dX11_led_31 rfl (fun c3 => absurd c3 (by decide)) (fun _ => ?_)
    have hv := Option.some.inj h
    exact vx_throw0 (names := ["java/lang/RuntimeException", "java/lang/Exception"]) (cls := "java/util/NoSuchElementException") hx hb hst hown (by decide) (by decide) (hts (.classLink RX11 332 "java/util/NoSuchElementException") (List.mem_of_getElem? (i := 1) (by decide +kernel))) (hts (.initialized "java/util/NoSuchElementException") (List.mem_of_getElem? (i := 2) (by decide +kernel))) hat hgood hLX.1 hLX.2.1 hS (by rw [hml]; exact hl.1) dX11_led_34 dX11_led_37 dX11_led_38 dX11_led_41 (fun x hx9 => (hnt x hx9).elim) (by decide) (by decide) (by decide) (by decide) hlocks (fun t hvm hsz hk => ⟨M, ⟨rfl, hv.symm⟩, ⟨rfl, hP.kept (fun k q hq => hk q.1 (hP k q hq).lt), hD, hT⟩, ⟨Nat.le_trans hS.1 hsz, fun z h1 h2 => (hk z (Nat.lt_of_lt_of_le h1 hS.1)).trans (hS.2.1 z h1 h2)⟩⟩) (fun z hz => hS.2.2 z hz) (by decide) (by decide)
  · replace h := oc_s hN2 h
    have kb2 := hq2 _ hN2
    show W _ _ _ _ _ _ _ _ _ _ _ _ _ _ _ (F0 _ _ _ (.ref (ad b2) :: []))
    refine lv_astore_n (lv' := [(3, .ref (ad b2)), (0, .ref (ad a0)), (1, .int x1), (2, .int x2)]) hx hb dX11_led_8 rfl hl (by decide) rfl (fun ls hl => ?_)
    refine lv_aload_n hx hb dX11_led_9 rfl (lv_at hl 0 rfl) ?_
    refine lv_ifnonnull (tgt := 17) hx hb dX11_led_10 rfl ?_
    refine lv_aload_n hx hb dX11_led_17 rfl (lv_at hl 1 rfl) ?_
    rcases hN4 : gR M a0 5 with _ | b4
    · exact absurd (oc_n hN4 h) (by simp)
    replace h := oc_s hN4 h
    have kb4 := hT.f k0 (k := 5) (t := 0) (n := 0) rfl hN4
    refine r_get (T := TX11) (v := .ref (ad b4)) hx hb hts in11 hown hK hP k0 (by decide) rfl 5 (by decide) (hts (.fieldLink RX11 45 "StoneWalk" "island" "LStoneWalk$Island;") (List.mem_of_getElem? (i := 3) (by decide +kernel))) rfl (t := 2) rfl (by show va_rf _ = _; rw [hN4]; rfl) dX11_led_18 ?_
    refine lv_aload_n hx hb dX11_led_21 rfl (lv_at hl 0 rfl) ?_
    refine lv_iload_n hx hb dX11_led_22 rfl (lv_at hl 3 rfl) ?_
    obtain ⟨z5, h5, h⟩ := ob_some h
    refine k_i (va_runV (As := [.ref (ad b2), .int x2]) (rest := []) ⟨hx, hb, hml, hown, hts⟩ (c_X0_clearlyLaid (l := l) M b4 b2 x2 kb4 kb2 h5) (cwV 2 hts gX11_led_X0_clearlyLaid rfl rfl rfl hdV_X0_clearlyLaid ⟨Nat.le_of_ble_eq_true rfl, Nat.le_of_ble_eq_true rfl⟩) (pV (T := TX0) hP hK hD hT hG hS kb4 (by decide) rfl) rfl rfl hl.1 rfl (lv_room (Nat.le_of_ble_eq_true rfl)) dX11_led_23 ⟨Nat.zero_le _, Nat.zero_le _⟩) hS (fun H locs hP hD hT hS => ?_)
    refine lv_istore (lv' := [(4, .int z5), (3, .ref (ad b2)), (0, .ref (ad a0)), (1, .int x1), (2, .int x2)]) hx hb dX11_led_26 hl (by decide) rfl (fun ls hl => ?_)
    refine lv_iload hx hb dX11_led_28 (lv_at hl 0 rfl) ?_
    refine lv_iconst (v := (-1)) hx hb dX11_led_30 rfl ?_
    refine lv_icmp_ne (tgt := 42) hx hb dX11_led_31 rfl (fun c6 => ?_) (fun c6 => ?_)
    · replace h := ite_f c6 h
      refine lv_iload hx hb dX11_led_42 (lv_at hl 0 rfl) ?_
      refine W.widen (k := 1) (n := 6) (Nat.zero_le _) (Nat.zero_le _) ?_
      exact vx_ret (r_iretD hx hb hr hlocks hP hK hD hT hG hS (by assumption) (Option.some.inj h) rfl dX11_led_44)
    · replace h := ite_t c6 h
      have hv := Option.some.inj h
      exact vx_throw0 (names := ["java/lang/RuntimeException", "java/lang/Exception"]) (cls := "java/util/NoSuchElementException") hx hb hst hown (by decide) (by decide) (hts (.classLink RX11 332 "java/util/NoSuchElementException") (List.mem_of_getElem? (i := 1) (by decide +kernel))) (hts (.initialized "java/util/NoSuchElementException") (List.mem_of_getElem? (i := 2) (by decide +kernel))) hat hgood hLX.1 hLX.2.1 hS (by rw [hml]; exact hl.1) dX11_led_34 dX11_led_37 dX11_led_38 dX11_led_41 (fun x hx9 => (hnt x hx9).elim) (by decide) (by decide) (by decide) (by decide) hlocks (fun t hvm hsz hk => ⟨M, ⟨rfl, hv.symm⟩, ⟨rfl, hP.kept (fun k q hq => hk q.1 (hP k q hq).lt), hD, hT⟩, ⟨Nat.le_trans hS.1 hsz, fun z h1 h2 => (hk z (Nat.lt_of_lt_of_le h1 hS.1)).trans (hS.2.1 z h1 h2)⟩⟩) (fun z hz => hS.2.2 z hz) (by decide) (by decide)
set_option maxHeartbeats 4000000 in
set_option maxRecDepth 100000 in
theorem c_L_led {l : Launch} (hst : l.stackTraces = false) {D : va_G} {ad : Nat → Nat} {cy : Nat → ClassId} {A : Nat → Prop} {g : CG} {q : SE} (M : MM) (a0 : Nat) (x1 : Int32) (x2 : Int32) (a3 : Nat) (k0 : ok g a0 11 0) (k3 : ok g a3 16 1) {Z : Int32} (h : f_X11_led M a0 x1 x2 = some Z) : Met l yL_led wsL_led ({ frames := 7, cells := 1, slots := 6, locals := 105 }) (va_Pc [.ref (ad a0), .int x1, .int x2, .ref (ad a3)] (fun U => Wd D ad cy A g q M U ∧ LXT A U U.heap)) (va_Qi (fun r u => (Z = -1 ∧ r = 1 ∧ u = M) ∨ (¬ Z = -1 ∧ r = 0 ∧ u = pL M a3 (ix 0) Z.toInt64)) (Wd D ad cy A g q) A) 1 6 A := by
  refine metH (cc := cL_led) (maxL := 5) (ret := some .int) (hh := [(0, 10, 13, 13)]) (by decide) rfl ?_
  intro p e s m args below meth c s₁ B hml hv
  obtain ⟨rfl, ⟨hP, hK, hD, hT, hG⟩, hLX⟩ := hv
  have hx := B.exec
  have hb := B.bytes
  have hr := B.returns
  have hts := atoms_spec (ws := wsL_led) B.pre
  have hown : s.vm.findClass RL = some m.cls := findClass_of_methodNamed B.named
  have hlocks := B.notSynchronized
  have htab := vx_table (x := yL_led) B (hts (.codeWith yL_led cL_led 5 (some .int) [(0, 10, 13, 13)]) List.mem_cons_self)
  have hS : va_S A s.heap s.heap [] := va_S.rf
  have hl := lv_entry ([.ref (ad a0), .int x1, .int x2, .ref (ad a3)]) (n := 5) (Nat.le_of_ble_eq_true rfl)
  rw [lg_entry_eq]
  generalize (lg_sl ([.ref (ad a0), .int x1, .int x2, .ref (ad a3)]) ++ List.replicate (5 - (lg_sl ([.ref (ad a0), .int x1, .int x2, .ref (ad a3)])).length) Slot.unset).toArray = ls at hl ⊢
  have hl : lv_has ls 5 [(0, .ref (ad a0)), (1, .int x1), (2, .int x2), (3, .ref (ad a3))] := hl
  refine lv_aload_n hx hb dL_led_0 rfl (lv_at hl 3 rfl) ?_
  refine lv_iconst (v := 0) hx hb dL_led_1 rfl ?_
  refine lv_aload_n hx hb dL_led_2 rfl (lv_at hl 0 rfl) ?_
  refine lv_iload_n hx hb dL_led_3 rfl (lv_at hl 1 rfl) ?_
  refine lv_iload_n hx hb dL_led_4 rfl (lv_at hl 2 rfl) ?_
  refine vx_calli (vx_runV (As := [.int x1, .int x2]) (rest := [.int 0, .ref (ad a3)]) ⟨hx, hb, hml, hown, hts⟩ (c_X11_led (l := l) hst M a0 x1 x2 k0 h) (cwV 2 hts gL_led_X11_led rfl rfl rfl hdV_X11_led ⟨Nat.le_of_ble_eq_true rfl, Nat.le_of_ble_eq_true rfl⟩) (pVL (T := TX11) hP hK hD hT hG hLX hS k0 (by decide) rfl) rfl rfl hl.1 rfl (lv_room (Nat.le_of_ble_eq_true rfl)) dL_led_5 ⟨Nat.le_of_ble_eq_true rfl, Nat.le_of_ble_eq_true rfl⟩) hS (fun _ _ h => h) (fun _ h => h) (fun _ _ h => h) (fun E ce q9 u t H1 locs1 ht hvm hpx hB hz1 hk1 hS1 hq9 hcv hcl => ?_) (fun r u t H1 locs1 ht hvm hw hB hz1 hk1 hS1 => ?_)
  · obtain ⟨rfl, hz⟩ := hpx
    obtain ⟨rfl, hP1, hD1, hT1⟩ := hB
    rw [ht] at hP1
    refine vx_catch (name := "java/util/NoSuchElementException") hown [] ⟨0, 10, 13, 13⟩ [] (by rw [htab]; rfl) (fun z hz9 => by cases hz9) (by decide) (by decide) (hts (.classLink RL 13 "java/util/NoSuchElementException") (List.mem_of_getElem? (i := 1) (by decide +kernel))) (va_Nw.use rfl hLX.2.2.2.2.2) hq9 hcv hcl ?_
    refine lv_astore (lv' := [(4, .ref q9), (0, .ref (ad a0)), (1, .int x1), (2, .int x2), (3, .ref (ad a3))]) hx hb dL_led_13 hl (by decide) rfl (fun ls hl => ?_)
    refine lv_iconst (v := 1) hx hb dL_led_15 rfl ?_
    exact W.iret hx hb hr (fun t ht hW => ⟨⟨1, u, rfl, Or.inl ⟨hz, rfl, rfl⟩, Wd.at hP1 hK hD1 hT1 hG hS1 hW ht⟩, hS1.F ht⟩) hS1.2.2 dL_led_16
  · obtain ⟨rfl, rfl, hne⟩ := hw
    obtain ⟨hP1, -, hD1, hT1, -⟩ := hB
    rw [ht] at hP1
    refine lv_i2l hx hb dL_led_8 rfl ?_
    refine r_last hx hb hK hP1 hD1 hT1 hS1 k3 (by decide) dL_led_9 (fun H locs hP hD hT hS => ?_)
    refine lv_goto (tgt := 17) hx hb dL_led_10 rfl ?_
    refine lv_iconst (v := 0) hx hb dL_led_17 rfl ?_
    exact W.iret hx hb hr (fun t ht hW => ⟨⟨0, _, rfl, Or.inr ⟨hne, rfl, rfl⟩, Wd.at hP hK hD hT hG hS hW ht⟩, hS.F ht⟩) hS.2.2 dL_led_18
