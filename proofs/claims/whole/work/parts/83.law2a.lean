/-! THE LAW'S CASES -/
def LawC (p : Program) (s : State) (m : MethodId) (c : Code) (b L : Nat) (xs : Nat → Int32) (D : va_G) (cy : Nat → ClassId) (q : SE) : Prop :=
  p.tables.exec = Jvm.exec ∧ c.code = cL_law ∧ c.maxLocals = 7 ∧ s.vm.findClass RL = some m.cls ∧ (∀ w ∈ wsL_law, w.before #[.ref b] s = true) ∧ va_X b L xs s s.heap ∧ b < s.heap.size ∧ va_K D vwCl (tyL cy) s ∧ SF q (lwA s) s s.heap ∧ LXT (lwA s) s s.heap
/-- the reference's Island lies below the newest name -/
theorem top_is {D : va_G} {cy : Nat → ClassId} {s : State} {x0 m0 o0 top : Nat} {adC adR : Nat → Nat} {gC gR0 : CG} {C R : MM} {H : Heap} {locs : List Loc} (h : LW D cy s x0 m0 o0 adC gC adR gR0 top C R H locs) : ∀ j, gR R 118 3 = some j → JS R j → j + 31 ≤ top := by
  intro j h3 hJ
  obtain ⟨hP, hD, h1, hT, hS, htop, h5, h6, ⟨h7, h8⟩, h9⟩ := h
  have kj := hT.f h7 (k := 3) (t := 12) (n := 0) rfl h3
  have k31 := hT.f kj (k := 47) (t := 15) (n := 35) rfl hJ.k47
  exact htop _ k31.1

set_option maxHeartbeats 4000000 in
set_option maxRecDepth 100000 in
theorem law_c0 {p : Program} {l : Launch} {e : Env} {s : State} {m : MethodId} {below : List Frame} {meth : Method} {c : Code} {cells slots b L : Nat} {xs : Nat → Int32} {D : va_G} {cy : Nat → ClassId} {q : SE} {adC adR : Nat → Nat} {gC gR0 : CG} {top : Nat} {C R : MM} {H : Heap} {locs : List Loc} {ls : Array Slot} {Q : State → Prop} {i : Nat} (hst : l.stackTraces = false) (K : LawC p s m c b L xs D cy q) (hcl : cells + 33 ≤ 601024) (hsl : slots + 336 ≤ 7293034) (hL : L ≤ 3072) (hi : i + 6 ≤ L) (h : LW D cy s (adC 1) (adR 118) (adC 118) adC gC adR gR0 top C R H locs) (hT : TOP C R) (hl : lv_has ls 7 [(4, .int (nI i)), (0, .ref b), (1, .ref (adC 1)), (2, .ref (adR 118)), (3, .ref (adC 118))])
    (kk : ∀ (adR2 : Nat → Nat) (gR2 : CG) (top2 : Nat) (C2 R2 : MM) (H2 : Heap) (locs2 : List Loc) (ls2 : Array Slot), LW D cy s (adC 1) (adR 118) (adC 118) adC gC adR2 gR2 top2 C2 R2 H2 locs2 → TOP C2 R2 → lv_has ls2 7 [(4, .int (nI i)), (0, .ref b), (1, .ref (adC 1)), (2, .ref (adR 118)), (3, .ref (adC 118))] → W p l e room_1 s m #[.ref b] below meth c H2 locs2 (cells + 33) (slots + 336) Q (F0 m 1824 ls2 [])) : W p l e room_1 s m #[.ref b] below meth c H locs cells slots Q (F0 m 244 ls []) := by
  obtain ⟨hx, hb, hml, hown, hts, hX, hbl, hK, hG, hLX⟩ := K
  have hbA : ¬ lwA s b := Nat.not_le.mpr hbl
  have hS := h.2.2.2.2.1
  have j1 : vp_in (nI i + 1) L := by
    rw [nI_1 i]
    exact vp_in_nI (by omega) (by omega)
  have j2 : vp_in (nI i + 2) L := by
    rw [show (2 : Int32) = nI 2 from rfl, nI_add]
    exact vp_in_nI (by omega) (by omega)
  have j3 : vp_in (nI i + 3) L := by
    rw [show (3 : Int32) = nI 3 from rfl, nI_add]
    exact vp_in_nI (by omega) (by omega)
  have j4 : vp_in (nI i + 4) L := by
    rw [show (4 : Int32) = nI 4 from rfl, nI_add]
    exact vp_in_nI (by omega) (by omega)
  have j5 : vp_in (nI i + 5) L := by
    rw [show (5 : Int32) = nI 5 from rfl, nI_add]
    exact vp_in_nI (by omega) (by omega)
  obtain ⟨jo, sc, ic, sp, hS0, hR0, -, -, hV0, -, hI0⟩ := id hT
  refine lv_aload_n hx hb dL_law_244 rfl (lv_at hl 2 rfl) ?_
  refine lv_aload_n hx hb dL_law_245 rfl (lv_at hl 1 rfl) ?_
  refine lv_iload hx hb dL_law_246 (lv_at hl 0 rfl) ?_
  refine lv_iconst (v := 1) hx hb dL_law_248 rfl ?_
  refine lv_iadd hx hb dL_law_249 ?_
  refine va_sld hx hb hX hbl hbA hS j1 dL_law_250 ?_
  refine lv_aload_n hx hb dL_law_251 rfl (lv_at hl 1 rfl) ?_
  refine lv_iload hx hb dL_law_252 (lv_at hl 0 rfl) ?_
  refine lv_iconst (v := 2) hx hb dL_law_254 rfl ?_
  refine lv_iadd hx hb dL_law_255 ?_
  refine va_sld hx hb hX hbl hbA hS j2 dL_law_256 ?_
  refine lv_aload_n hx hb dL_law_257 rfl (lv_at hl 1 rfl) ?_
  refine lv_iload hx hb dL_law_258 (lv_at hl 0 rfl) ?_
  refine lv_iconst (v := 3) hx hb dL_law_260 rfl ?_
  refine lv_iadd hx hb dL_law_261 ?_
  refine va_sld hx hb hX hbl hbA hS j3 dL_law_262 ?_
  refine lv_aload_n hx hb dL_law_263 rfl (lv_at hl 1 rfl) ?_
  refine lv_iload hx hb dL_law_264 (lv_at hl 0 rfl) ?_
  refine lv_iconst (v := 4) hx hb dL_law_266 rfl ?_
  refine lv_iadd hx hb dL_law_267 ?_
  refine va_sld hx hb hX hbl hbA hS j4 dL_law_268 ?_
  refine lv_aload_n hx hb dL_law_269 rfl (lv_at hl 1 rfl) ?_
  refine lv_iload hx hb dL_law_270 (lv_at hl 0 rfl) ?_
  refine lv_iconst (v := 5) hx hb dL_law_272 rfl ?_
  refine lv_iadd hx hb dL_law_273 ?_
  refine va_sld hx hb hX hbl hbA hS j5 dL_law_274 ?_
  obtain ⟨r, C2, R2, e1, e2, hT2⟩ : FT C R (f_X11_feed C 1 (xs (nI i + 1).toNatClampNeg) (xs (nI i + 2).toNatClampNeg) (xs (nI i + 3).toNatClampNeg) (xs (nI i + 4).toNatClampNeg) (xs (nI i + 5).toNatClampNeg)) (f_X13_feed R 118 (xs (nI i + 1).toNatClampNeg) (xs (nI i + 2).toNatClampNeg) (xs (nI i + 3).toNatClampNeg) (xs (nI i + 4).toNatClampNeg) (xs (nI i + 5).toNatClampNeg)) := t_feed hT (xs (nI i + 1).toNatClampNeg) (xs (nI i + 2).toNatClampNeg) (xs (nI i + 3).toNatClampNeg) (xs (nI i + 4).toNatClampNeg) (xs (nI i + 5).toNatClampNeg)
  refine lwC_i (Z := r) (C2 := C2) h (va_runV (As := [.int (xs (nI i + 1).toNatClampNeg), .int (xs (nI i + 2).toNatClampNeg), .int (xs (nI i + 3).toNatClampNeg), .int (xs (nI i + 4).toNatClampNeg), .int (xs (nI i + 5).toNatClampNeg)]) (rest := []) ⟨hx, hb, hml, hown, hts⟩ (c_X11_feed (l := l) C 1 (xs (nI i + 1).toNatClampNeg) (xs (nI i + 2).toNatClampNeg) (xs (nI i + 3).toNatClampNeg) (xs (nI i + 4).toNatClampNeg) (xs (nI i + 5).toNatClampNeg) h.2.2.2.2.2.2.2.1.1 e1) (cwV 5 hts gL_law_X11_feed rfl rfl rfl hdV_X11_feed ⟨Nat.le_of_ble_eq_true rfl, Nat.le_of_ble_eq_true rfl⟩) (pC h hK hG) rfl rfl hl.1 rfl (lv_room (Nat.le_of_ble_eq_true rfl)) dL_law_275 ⟨by show cells + 0 ≤ 601024; omega, by show slots + 0 ≤ 7293034; omega⟩) (fun H locs h => ?_)
  have hS := h.2.2.2.2.1
  refine lv_aload_n hx hb dL_law_278 rfl (lv_at hl 3 rfl) ?_
  refine lv_aload_n hx hb dL_law_279 rfl (lv_at hl 1 rfl) ?_
  refine lv_iload hx hb dL_law_280 (lv_at hl 0 rfl) ?_
  refine lv_iconst (v := 1) hx hb dL_law_282 rfl ?_
  refine lv_iadd hx hb dL_law_283 ?_
  refine va_sld hx hb hX hbl hbA hS j1 dL_law_284 ?_
  refine lv_aload_n hx hb dL_law_285 rfl (lv_at hl 1 rfl) ?_
  refine lv_iload hx hb dL_law_286 (lv_at hl 0 rfl) ?_
  refine lv_iconst (v := 2) hx hb dL_law_288 rfl ?_
  refine lv_iadd hx hb dL_law_289 ?_
  refine va_sld hx hb hX hbl hbA hS j2 dL_law_290 ?_
  refine lv_aload_n hx hb dL_law_291 rfl (lv_at hl 1 rfl) ?_
  refine lv_iload hx hb dL_law_292 (lv_at hl 0 rfl) ?_
  refine lv_iconst (v := 3) hx hb dL_law_294 rfl ?_
  refine lv_iadd hx hb dL_law_295 ?_
  refine va_sld hx hb hX hbl hbA hS j3 dL_law_296 ?_
  refine lv_aload_n hx hb dL_law_297 rfl (lv_at hl 1 rfl) ?_
  refine lv_iload hx hb dL_law_298 (lv_at hl 0 rfl) ?_
  refine lv_iconst (v := 4) hx hb dL_law_300 rfl ?_
  refine lv_iadd hx hb dL_law_301 ?_
  refine va_sld hx hb hX hbl hbA hS j4 dL_law_302 ?_
  refine lv_aload_n hx hb dL_law_303 rfl (lv_at hl 1 rfl) ?_
  refine lv_iload hx hb dL_law_304 (lv_at hl 0 rfl) ?_
  refine lv_iconst (v := 5) hx hb dL_law_306 rfl ?_
  refine lv_iadd hx hb dL_law_307 ?_
  refine va_sld hx hb hX hbl hbA hS j5 dL_law_308 ?_
  refine lwR_i (Z := r) (R2 := R2) h (va_runV (As := [.int (xs (nI i + 1).toNatClampNeg), .int (xs (nI i + 2).toNatClampNeg), .int (xs (nI i + 3).toNatClampNeg), .int (xs (nI i + 4).toNatClampNeg), .int (xs (nI i + 5).toNatClampNeg)]) (rest := [.int r]) ⟨hx, hb, hml, hown, hts⟩ (c_X13_feed (l := l) R 118 (xs (nI i + 1).toNatClampNeg) (xs (nI i + 2).toNatClampNeg) (xs (nI i + 3).toNatClampNeg) (xs (nI i + 4).toNatClampNeg) (xs (nI i + 5).toNatClampNeg) h.2.2.2.2.2.2.2.2.1.1 e2) (cwV 5 hts gL_law_X13_feed rfl rfl rfl hdV_X13_feed ⟨Nat.le_of_ble_eq_true rfl, Nat.le_of_ble_eq_true rfl⟩) (pR0 h hK hG) rfl rfl hl.1 rfl (lv_room (Nat.le_of_ble_eq_true rfl)) dL_law_309 ⟨by show cells + 0 ≤ 601024; omega, by show slots + 0 ≤ 7293034; omega⟩) (fun H locs h => ?_)
  have hS := h.2.2.2.2.1
  refine lv_icmp_eq (tgt := 1824) hx hb dL_law_312 rfl (fun _ => ?_) (fun c => absurd rfl c)
  refine W.widen (k := cells + 33) (n := slots + 336) (by omega) (by omega) ?_
  exact kk adR gR0 top C2 R2 H locs ls h hT2 hl
set_option maxHeartbeats 4000000 in
set_option maxRecDepth 100000 in
theorem law_c1 {p : Program} {l : Launch} {e : Env} {s : State} {m : MethodId} {below : List Frame} {meth : Method} {c : Code} {cells slots b L : Nat} {xs : Nat → Int32} {D : va_G} {cy : Nat → ClassId} {q : SE} {adC adR : Nat → Nat} {gC gR0 : CG} {top : Nat} {C R : MM} {H : Heap} {locs : List Loc} {ls : Array Slot} {Q : State → Prop} {i : Nat} (hst : l.stackTraces = false) (K : LawC p s m c b L xs D cy q) (hcl : cells + 33 ≤ 601024) (hsl : slots + 336 ≤ 7293034) (hL : L ≤ 3072) (hi : i + 6 ≤ L) (h : LW D cy s (adC 1) (adR 118) (adC 118) adC gC adR gR0 top C R H locs) (hT : TOP C R) (hl : lv_has ls 7 [(4, .int (nI i)), (0, .ref b), (1, .ref (adC 1)), (2, .ref (adR 118)), (3, .ref (adC 118))])
    (kk : ∀ (adR2 : Nat → Nat) (gR2 : CG) (top2 : Nat) (C2 R2 : MM) (H2 : Heap) (locs2 : List Loc) (ls2 : Array Slot), LW D cy s (adC 1) (adR 118) (adC 118) adC gC adR2 gR2 top2 C2 R2 H2 locs2 → TOP C2 R2 → lv_has ls2 7 [(4, .int (nI i)), (0, .ref b), (1, .ref (adC 1)), (2, .ref (adR 118)), (3, .ref (adC 118))] → W p l e room_1 s m #[.ref b] below meth c H2 locs2 (cells + 33) (slots + 336) Q (F0 m 1824 ls2 [])) : W p l e room_1 s m #[.ref b] below meth c H locs cells slots Q (F0 m 317 ls []) := by
  obtain ⟨hx, hb, hml, hown, hts, hX, hbl, hK, hG, hLX⟩ := K
  have hbA : ¬ lwA s b := Nat.not_le.mpr hbl
  have hS := h.2.2.2.2.1
  have j1 : vp_in (nI i + 1) L := by
    rw [nI_1 i]
    exact vp_in_nI (by omega) (by omega)
  obtain ⟨jo, sc, ic, sp, hS0, hR0, -, -, hV0, -, hI0⟩ := id hT
  refine lv_aload_n hx hb dL_law_317 rfl (lv_at hl 2 rfl) ?_
  refine lv_aload_n hx hb dL_law_318 rfl (lv_at hl 1 rfl) ?_
  refine lv_iload hx hb dL_law_319 (lv_at hl 0 rfl) ?_
  refine lv_iconst (v := 1) hx hb dL_law_321 rfl ?_
  refine lv_iadd hx hb dL_law_322 ?_
  refine va_sld hx hb hX hbl hbA hS j1 dL_law_323 ?_
  obtain ⟨r, C2, R2, e1, e2, hT2⟩ : FT C R (f_X11_island C 1 (xs (nI i + 1).toNatClampNeg)) (f_X13_island R 118 (xs (nI i + 1).toNatClampNeg) top) := t_island hT (xs (nI i + 1).toNatClampNeg) h.2.2.2.2.2.2.1 (top_is h)
  refine lwC_i (Z := r) (C2 := C2) h (va_runV (As := [.int (xs (nI i + 1).toNatClampNeg)]) (rest := []) ⟨hx, hb, hml, hown, hts⟩ (c_X11_island (l := l) C 1 (xs (nI i + 1).toNatClampNeg) h.2.2.2.2.2.2.2.1.1 e1) (cwV 1 hts gL_law_X11_island rfl rfl rfl hdV_X11_island ⟨Nat.le_of_ble_eq_true rfl, Nat.le_of_ble_eq_true rfl⟩) (pC h hK hG) rfl rfl hl.1 rfl (lv_room (Nat.le_of_ble_eq_true rfl)) dL_law_324 ⟨by show cells + 0 ≤ 601024; omega, by show slots + 0 ≤ 7293034; omega⟩) (fun H locs h => ?_)
  have hS := h.2.2.2.2.1
  refine lv_aload_n hx hb dL_law_327 rfl (lv_at hl 3 rfl) ?_
  refine lv_aload_n hx hb dL_law_328 rfl (lv_at hl 1 rfl) ?_
  refine lv_iload hx hb dL_law_329 (lv_at hl 0 rfl) ?_
  refine lv_iconst (v := 1) hx hb dL_law_331 rfl ?_
  refine lv_iadd hx hb dL_law_332 ?_
  refine va_sld hx hb hX hbl hbA hS j1 dL_law_333 ?_
  refine lwR_x (Z := r) (R2 := R2) h (va_runV (As := [.int (xs (nI i + 1).toNatClampNeg)]) (rest := [.int r]) ⟨hx, hb, hml, hown, hts⟩ (c_X13_island (l := l) R 118 (xs (nI i + 1).toNatClampNeg) top h.2.2.2.2.2.2.2.2.1.1 h.2.2.2.2.2.1 e2) (cwV 1 hts gL_law_X13_island rfl rfl rfl hdV_X13_island ⟨Nat.le_of_ble_eq_true rfl, Nat.le_of_ble_eq_true rfl⟩) (pRA h hK hG) rfl rfl hl.1 rfl (lv_room (Nat.le_of_ble_eq_true rfl)) dL_law_334 ⟨by show cells + 32 ≤ 601024; omega, by show slots + 330 ≤ 7293034; omega⟩) (fun adR2 gR2 top2 H locs h => ?_)
  have hS := h.2.2.2.2.1
  refine lv_icmp_eq (tgt := 1824) hx hb dL_law_337 rfl (fun _ => ?_) (fun c => absurd rfl c)
  refine W.widen (k := cells + 33) (n := slots + 336) (by omega) (by omega) ?_
  exact kk adR2 gR2 top2 C2 R2 H locs ls h hT2 hl
set_option maxHeartbeats 4000000 in
set_option maxRecDepth 100000 in
theorem law_c2 {p : Program} {l : Launch} {e : Env} {s : State} {m : MethodId} {below : List Frame} {meth : Method} {c : Code} {cells slots b L : Nat} {xs : Nat → Int32} {D : va_G} {cy : Nat → ClassId} {q : SE} {adC adR : Nat → Nat} {gC gR0 : CG} {top : Nat} {C R : MM} {H : Heap} {locs : List Loc} {ls : Array Slot} {Q : State → Prop} {i : Nat} (hst : l.stackTraces = false) (K : LawC p s m c b L xs D cy q) (hcl : cells + 33 ≤ 601024) (hsl : slots + 336 ≤ 7293034) (hL : L ≤ 3072) (hi : i + 6 ≤ L) (h : LW D cy s (adC 1) (adR 118) (adC 118) adC gC adR gR0 top C R H locs) (hT : TOP C R) (hl : lv_has ls 7 [(4, .int (nI i)), (0, .ref b), (1, .ref (adC 1)), (2, .ref (adR 118)), (3, .ref (adC 118))])
    (kk : ∀ (adR2 : Nat → Nat) (gR2 : CG) (top2 : Nat) (C2 R2 : MM) (H2 : Heap) (locs2 : List Loc) (ls2 : Array Slot), LW D cy s (adC 1) (adR 118) (adC 118) adC gC adR2 gR2 top2 C2 R2 H2 locs2 → TOP C2 R2 → lv_has ls2 7 [(4, .int (nI i)), (0, .ref b), (1, .ref (adC 1)), (2, .ref (adR 118)), (3, .ref (adC 118))] → W p l e room_1 s m #[.ref b] below meth c H2 locs2 (cells + 33) (slots + 336) Q (F0 m 1824 ls2 [])) : W p l e room_1 s m #[.ref b] below meth c H locs cells slots Q (F0 m 342 ls []) := by
  obtain ⟨hx, hb, hml, hown, hts, hX, hbl, hK, hG, hLX⟩ := K
  have hbA : ¬ lwA s b := Nat.not_le.mpr hbl
  have hS := h.2.2.2.2.1
  obtain ⟨jo, sc, ic, sp, hS0, hR0, -, -, hV0, -, hI0⟩ := id hT
  refine lv_aload_n hx hb dL_law_342 rfl (lv_at hl 2 rfl) ?_
  obtain ⟨r, e1, e2⟩ : NT C R (f_X11_fault C 1 ) (f_X13_fault R 118 ) := t_fault hT
  refine lwC_i (Z := r) (C2 := C) h (va_runV (As := []) (rest := []) ⟨hx, hb, hml, hown, hts⟩ (c_X11_fault (l := l) C 1 h.2.2.2.2.2.2.2.1.1 e1) (cwV 0 hts gL_law_X11_fault rfl rfl rfl hdV_X11_fault ⟨Nat.le_of_ble_eq_true rfl, Nat.le_of_ble_eq_true rfl⟩) (pC h hK hG) rfl rfl hl.1 rfl (lv_room (Nat.le_of_ble_eq_true rfl)) dL_law_343 ⟨by show cells + 0 ≤ 601024; omega, by show slots + 0 ≤ 7293034; omega⟩) (fun H locs h => ?_)
  have hS := h.2.2.2.2.1
  refine lv_aload_n hx hb dL_law_346 rfl (lv_at hl 3 rfl) ?_
  refine lwR_i (Z := r) (R2 := (pI R 118 0 0)) h (va_runV (As := []) (rest := [.int r]) ⟨hx, hb, hml, hown, hts⟩ (c_X13_fault (l := l) R 118 h.2.2.2.2.2.2.2.2.1.1 e2) (cwV 0 hts gL_law_X13_fault rfl rfl rfl hdV_X13_fault ⟨Nat.le_of_ble_eq_true rfl, Nat.le_of_ble_eq_true rfl⟩) (pR0 h hK hG) rfl rfl hl.1 rfl (lv_room (Nat.le_of_ble_eq_true rfl)) dL_law_347 ⟨by show cells + 0 ≤ 601024; omega, by show slots + 0 ≤ 7293034; omega⟩) (fun H locs h => ?_)
  have hS := h.2.2.2.2.1
  refine lv_icmp_eq (tgt := 1824) hx hb dL_law_350 rfl (fun _ => ?_) (fun c => absurd rfl c)
  refine W.widen (k := cells + 33) (n := slots + 336) (by omega) (by omega) ?_
  exact kk adR gR0 top C (pI R 118 0 0) H locs ls h (hT.t 0) hl
set_option maxHeartbeats 4000000 in
set_option maxRecDepth 100000 in
theorem law_c3 {p : Program} {l : Launch} {e : Env} {s : State} {m : MethodId} {below : List Frame} {meth : Method} {c : Code} {cells slots b L : Nat} {xs : Nat → Int32} {D : va_G} {cy : Nat → ClassId} {q : SE} {adC adR : Nat → Nat} {gC gR0 : CG} {top : Nat} {C R : MM} {H : Heap} {locs : List Loc} {ls : Array Slot} {Q : State → Prop} {i : Nat} (hst : l.stackTraces = false) (K : LawC p s m c b L xs D cy q) (hcl : cells + 33 ≤ 601024) (hsl : slots + 336 ≤ 7293034) (hL : L ≤ 3072) (hi : i + 6 ≤ L) (h : LW D cy s (adC 1) (adR 118) (adC 118) adC gC adR gR0 top C R H locs) (hT : TOP C R) (hl : lv_has ls 7 [(4, .int (nI i)), (0, .ref b), (1, .ref (adC 1)), (2, .ref (adR 118)), (3, .ref (adC 118))])
    (kk : ∀ (adR2 : Nat → Nat) (gR2 : CG) (top2 : Nat) (C2 R2 : MM) (H2 : Heap) (locs2 : List Loc) (ls2 : Array Slot), LW D cy s (adC 1) (adR 118) (adC 118) adC gC adR2 gR2 top2 C2 R2 H2 locs2 → TOP C2 R2 → lv_has ls2 7 [(4, .int (nI i)), (0, .ref b), (1, .ref (adC 1)), (2, .ref (adR 118)), (3, .ref (adC 118))] → W p l e room_1 s m #[.ref b] below meth c H2 locs2 (cells + 33) (slots + 336) Q (F0 m 1824 ls2 [])) : W p l e room_1 s m #[.ref b] below meth c H locs cells slots Q (F0 m 355 ls []) := by
  obtain ⟨hx, hb, hml, hown, hts, hX, hbl, hK, hG, hLX⟩ := K
  have hbA : ¬ lwA s b := Nat.not_le.mpr hbl
  have hS := h.2.2.2.2.1
  obtain ⟨jo, sc, ic, sp, hS0, hR0, -, -, hV0, -, hI0⟩ := id hT
  refine lv_aload_n hx hb dL_law_355 rfl (lv_at hl 2 rfl) ?_
  obtain ⟨r, e1, e2⟩ : NT C R (f_X11_where C 1 ) (f_X13_where R 118 ) := t_where hT
  refine lwC_i (Z := r) (C2 := C) h (va_runV (As := []) (rest := []) ⟨hx, hb, hml, hown, hts⟩ (c_X11_where (l := l) C 1 h.2.2.2.2.2.2.2.1.1 e1) (cwV 0 hts gL_law_X11_where rfl rfl rfl hdV_X11_where ⟨Nat.le_of_ble_eq_true rfl, Nat.le_of_ble_eq_true rfl⟩) (pC h hK hG) rfl rfl hl.1 rfl (lv_room (Nat.le_of_ble_eq_true rfl)) dL_law_356 ⟨by show cells + 0 ≤ 601024; omega, by show slots + 0 ≤ 7293034; omega⟩) (fun H locs h => ?_)
  have hS := h.2.2.2.2.1
  refine lv_aload_n hx hb dL_law_359 rfl (lv_at hl 3 rfl) ?_
  refine lwR_i (Z := r) (R2 := (pI R 118 0 0)) h (va_runV (As := []) (rest := [.int r]) ⟨hx, hb, hml, hown, hts⟩ (c_X13_where (l := l) R 118 h.2.2.2.2.2.2.2.2.1.1 e2) (cwV 0 hts gL_law_X13_where rfl rfl rfl hdV_X13_where ⟨Nat.le_of_ble_eq_true rfl, Nat.le_of_ble_eq_true rfl⟩) (pR0 h hK hG) rfl rfl hl.1 rfl (lv_room (Nat.le_of_ble_eq_true rfl)) dL_law_360 ⟨by show cells + 0 ≤ 601024; omega, by show slots + 0 ≤ 7293034; omega⟩) (fun H locs h => ?_)
  have hS := h.2.2.2.2.1
  refine lv_icmp_eq (tgt := 1824) hx hb dL_law_363 rfl (fun _ => ?_) (fun c => absurd rfl c)
  refine W.widen (k := cells + 33) (n := slots + 336) (by omega) (by omega) ?_
  exact kk adR gR0 top C (pI R 118 0 0) H locs ls h (hT.t 0) hl
set_option maxHeartbeats 4000000 in
set_option maxRecDepth 100000 in
theorem law_c4 {p : Program} {l : Launch} {e : Env} {s : State} {m : MethodId} {below : List Frame} {meth : Method} {c : Code} {cells slots b L : Nat} {xs : Nat → Int32} {D : va_G} {cy : Nat → ClassId} {q : SE} {adC adR : Nat → Nat} {gC gR0 : CG} {top : Nat} {C R : MM} {H : Heap} {locs : List Loc} {ls : Array Slot} {Q : State → Prop} {i : Nat} (hst : l.stackTraces = false) (K : LawC p s m c b L xs D cy q) (hcl : cells + 33 ≤ 601024) (hsl : slots + 336 ≤ 7293034) (hL : L ≤ 3072) (hi : i + 6 ≤ L) (h : LW D cy s (adC 1) (adR 118) (adC 118) adC gC adR gR0 top C R H locs) (hT : TOP C R) (hl : lv_has ls 7 [(4, .int (nI i)), (0, .ref b), (1, .ref (adC 1)), (2, .ref (adR 118)), (3, .ref (adC 118))])
    (kk : ∀ (adR2 : Nat → Nat) (gR2 : CG) (top2 : Nat) (C2 R2 : MM) (H2 : Heap) (locs2 : List Loc) (ls2 : Array Slot), LW D cy s (adC 1) (adR 118) (adC 118) adC gC adR2 gR2 top2 C2 R2 H2 locs2 → TOP C2 R2 → lv_has ls2 7 [(4, .int (nI i)), (0, .ref b), (1, .ref (adC 1)), (2, .ref (adR 118)), (3, .ref (adC 118))] → W p l e room_1 s m #[.ref b] below meth c H2 locs2 (cells + 33) (slots + 336) Q (F0 m 1824 ls2 [])) : W p l e room_1 s m #[.ref b] below meth c H locs cells slots Q (F0 m 368 ls []) := by
  obtain ⟨hx, hb, hml, hown, hts, hX, hbl, hK, hG, hLX⟩ := K
  have hbA : ¬ lwA s b := Nat.not_le.mpr hbl
  have hS := h.2.2.2.2.1
  have j1 : vp_in (nI i + 1) L := by
    rw [nI_1 i]
    exact vp_in_nI (by omega) (by omega)
  have j2 : vp_in (nI i + 2) L := by
    rw [show (2 : Int32) = nI 2 from rfl, nI_add]
    exact vp_in_nI (by omega) (by omega)
  have j3 : vp_in (nI i + 3) L := by
    rw [show (3 : Int32) = nI 3 from rfl, nI_add]
    exact vp_in_nI (by omega) (by omega)
  obtain ⟨jo, sc, ic, sp, hS0, hR0, -, -, hV0, -, hI0⟩ := id hT
  refine lv_aload_n hx hb dL_law_368 rfl (lv_at hl 2 rfl) ?_
  refine lv_aload_n hx hb dL_law_369 rfl (lv_at hl 1 rfl) ?_
  refine lv_iload hx hb dL_law_370 (lv_at hl 0 rfl) ?_
  refine lv_iconst (v := 1) hx hb dL_law_372 rfl ?_
  refine lv_iadd hx hb dL_law_373 ?_
  refine va_sld hx hb hX hbl hbA hS j1 dL_law_374 ?_
  refine lv_aload_n hx hb dL_law_375 rfl (lv_at hl 1 rfl) ?_
  refine lv_iload hx hb dL_law_376 (lv_at hl 0 rfl) ?_
  refine lv_iconst (v := 2) hx hb dL_law_378 rfl ?_
  refine lv_iadd hx hb dL_law_379 ?_
  refine va_sld hx hb hX hbl hbA hS j2 dL_law_380 ?_
  refine lv_aload_n hx hb dL_law_381 rfl (lv_at hl 1 rfl) ?_
  refine lv_iload hx hb dL_law_382 (lv_at hl 0 rfl) ?_
  refine lv_iconst (v := 3) hx hb dL_law_384 rfl ?_
  refine lv_iadd hx hb dL_law_385 ?_
  refine va_sld hx hb hX hbl hbA hS j3 dL_law_386 ?_
  obtain ⟨r, C2, R2, e1, e2, hT2⟩ : FT C R (f_X11_can C 1 (xs (nI i + 1).toNatClampNeg) (xs (nI i + 2).toNatClampNeg) (xs (nI i + 3).toNatClampNeg)) (f_X13_can R 118 (xs (nI i + 1).toNatClampNeg) (xs (nI i + 2).toNatClampNeg) (xs (nI i + 3).toNatClampNeg)) := (q_can hS0 hI0.ir (xs (nI i + 1).toNatClampNeg) (xs (nI i + 2).toNatClampNeg) (xs (nI i + 3).toNatClampNeg)).top hT
  refine lwC_i (Z := r) (C2 := C2) h (va_runV (As := [.int (xs (nI i + 1).toNatClampNeg), .int (xs (nI i + 2).toNatClampNeg), .int (xs (nI i + 3).toNatClampNeg)]) (rest := []) ⟨hx, hb, hml, hown, hts⟩ (c_X11_can (l := l) C 1 (xs (nI i + 1).toNatClampNeg) (xs (nI i + 2).toNatClampNeg) (xs (nI i + 3).toNatClampNeg) h.2.2.2.2.2.2.2.1.1 e1) (cwV 3 hts gL_law_X11_can rfl rfl rfl hdV_X11_can ⟨Nat.le_of_ble_eq_true rfl, Nat.le_of_ble_eq_true rfl⟩) (pC h hK hG) rfl rfl hl.1 rfl (lv_room (Nat.le_of_ble_eq_true rfl)) dL_law_387 ⟨by show cells + 0 ≤ 601024; omega, by show slots + 0 ≤ 7293034; omega⟩) (fun H locs h => ?_)
  have hS := h.2.2.2.2.1
  refine lv_aload_n hx hb dL_law_390 rfl (lv_at hl 3 rfl) ?_
  refine lv_aload_n hx hb dL_law_391 rfl (lv_at hl 1 rfl) ?_
  refine lv_iload hx hb dL_law_392 (lv_at hl 0 rfl) ?_
  refine lv_iconst (v := 1) hx hb dL_law_394 rfl ?_
  refine lv_iadd hx hb dL_law_395 ?_
  refine va_sld hx hb hX hbl hbA hS j1 dL_law_396 ?_
  refine lv_aload_n hx hb dL_law_397 rfl (lv_at hl 1 rfl) ?_
  refine lv_iload hx hb dL_law_398 (lv_at hl 0 rfl) ?_
  refine lv_iconst (v := 2) hx hb dL_law_400 rfl ?_
  refine lv_iadd hx hb dL_law_401 ?_
  refine va_sld hx hb hX hbl hbA hS j2 dL_law_402 ?_
  refine lv_aload_n hx hb dL_law_403 rfl (lv_at hl 1 rfl) ?_
  refine lv_iload hx hb dL_law_404 (lv_at hl 0 rfl) ?_
  refine lv_iconst (v := 3) hx hb dL_law_406 rfl ?_
  refine lv_iadd hx hb dL_law_407 ?_
  refine va_sld hx hb hX hbl hbA hS j3 dL_law_408 ?_
  refine lwR_i (Z := r) (R2 := R2) h (va_runV (As := [.int (xs (nI i + 1).toNatClampNeg), .int (xs (nI i + 2).toNatClampNeg), .int (xs (nI i + 3).toNatClampNeg)]) (rest := [.int r]) ⟨hx, hb, hml, hown, hts⟩ (c_X13_can (l := l) R 118 (xs (nI i + 1).toNatClampNeg) (xs (nI i + 2).toNatClampNeg) (xs (nI i + 3).toNatClampNeg) h.2.2.2.2.2.2.2.2.1.1 e2) (cwV 3 hts gL_law_X13_can rfl rfl rfl hdV_X13_can ⟨Nat.le_of_ble_eq_true rfl, Nat.le_of_ble_eq_true rfl⟩) (pR0 h hK hG) rfl rfl hl.1 rfl (lv_room (Nat.le_of_ble_eq_true rfl)) dL_law_409 ⟨by show cells + 0 ≤ 601024; omega, by show slots + 0 ≤ 7293034; omega⟩) (fun H locs h => ?_)
  have hS := h.2.2.2.2.1
  refine lv_icmp_eq (tgt := 1824) hx hb dL_law_412 rfl (fun _ => ?_) (fun c => absurd rfl c)
  refine W.widen (k := cells + 33) (n := slots + 336) (by omega) (by omega) ?_
  exact kk adR gR0 top C2 R2 H locs ls h hT2 hl
set_option maxHeartbeats 4000000 in
set_option maxRecDepth 100000 in
theorem law_c5 {p : Program} {l : Launch} {e : Env} {s : State} {m : MethodId} {below : List Frame} {meth : Method} {c : Code} {cells slots b L : Nat} {xs : Nat → Int32} {D : va_G} {cy : Nat → ClassId} {q : SE} {adC adR : Nat → Nat} {gC gR0 : CG} {top : Nat} {C R : MM} {H : Heap} {locs : List Loc} {ls : Array Slot} {Q : State → Prop} {i : Nat} (hst : l.stackTraces = false) (K : LawC p s m c b L xs D cy q) (hcl : cells + 33 ≤ 601024) (hsl : slots + 336 ≤ 7293034) (hL : L ≤ 3072) (hi : i + 6 ≤ L) (h : LW D cy s (adC 1) (adR 118) (adC 118) adC gC adR gR0 top C R H locs) (hT : TOP C R) (hl : lv_has ls 7 [(4, .int (nI i)), (0, .ref b), (1, .ref (adC 1)), (2, .ref (adR 118)), (3, .ref (adC 118))])
    (kk : ∀ (adR2 : Nat → Nat) (gR2 : CG) (top2 : Nat) (C2 R2 : MM) (H2 : Heap) (locs2 : List Loc) (ls2 : Array Slot), LW D cy s (adC 1) (adR 118) (adC 118) adC gC adR2 gR2 top2 C2 R2 H2 locs2 → TOP C2 R2 → lv_has ls2 7 [(4, .int (nI i)), (0, .ref b), (1, .ref (adC 1)), (2, .ref (adR 118)), (3, .ref (adC 118))] → W p l e room_1 s m #[.ref b] below meth c H2 locs2 (cells + 33) (slots + 336) Q (F0 m 1824 ls2 [])) : W p l e room_1 s m #[.ref b] below meth c H locs cells slots Q (F0 m 417 ls []) := by
  obtain ⟨hx, hb, hml, hown, hts, hX, hbl, hK, hG, hLX⟩ := K
  have hbA : ¬ lwA s b := Nat.not_le.mpr hbl
  have hS := h.2.2.2.2.1
  have j1 : vp_in (nI i + 1) L := by
    rw [nI_1 i]
    exact vp_in_nI (by omega) (by omega)
  have j2 : vp_in (nI i + 2) L := by
    rw [show (2 : Int32) = nI 2 from rfl, nI_add]
    exact vp_in_nI (by omega) (by omega)
  have j3 : vp_in (nI i + 3) L := by
    rw [show (3 : Int32) = nI 3 from rfl, nI_add]
    exact vp_in_nI (by omega) (by omega)
  obtain ⟨jo, sc, ic, sp, hS0, hR0, -, -, hV0, -, hI0⟩ := id hT
  refine lv_aload_n hx hb dL_law_417 rfl (lv_at hl 2 rfl) ?_
  refine lv_aload_n hx hb dL_law_418 rfl (lv_at hl 1 rfl) ?_
  refine lv_iload hx hb dL_law_419 (lv_at hl 0 rfl) ?_
  refine lv_iconst (v := 1) hx hb dL_law_421 rfl ?_
  refine lv_iadd hx hb dL_law_422 ?_
  refine va_sld hx hb hX hbl hbA hS j1 dL_law_423 ?_
  refine lv_aload_n hx hb dL_law_424 rfl (lv_at hl 1 rfl) ?_
  refine lv_iload hx hb dL_law_425 (lv_at hl 0 rfl) ?_
  refine lv_iconst (v := 2) hx hb dL_law_427 rfl ?_
  refine lv_iadd hx hb dL_law_428 ?_
  refine va_sld hx hb hX hbl hbA hS j2 dL_law_429 ?_
  refine lv_aload_n hx hb dL_law_430 rfl (lv_at hl 1 rfl) ?_
  refine lv_iload hx hb dL_law_431 (lv_at hl 0 rfl) ?_
  refine lv_iconst (v := 3) hx hb dL_law_433 rfl ?_
  refine lv_iadd hx hb dL_law_434 ?_
  refine va_sld hx hb hX hbl hbA hS j3 dL_law_435 ?_
  obtain ⟨r, C2, R2, e1, e2, hT2⟩ : FT C R (f_X11_canOn C 1 (xs (nI i + 1).toNatClampNeg) (xs (nI i + 2).toNatClampNeg) (xs (nI i + 3).toNatClampNeg)) (f_X13_canOn R 118 (xs (nI i + 1).toNatClampNeg) (xs (nI i + 2).toNatClampNeg) (xs (nI i + 3).toNatClampNeg)) := (q_canOn hS0 hI0.ir (xs (nI i + 1).toNatClampNeg) (xs (nI i + 2).toNatClampNeg) (xs (nI i + 3).toNatClampNeg)).top hT
  refine lwC_i (Z := r) (C2 := C2) h (va_runV (As := [.int (xs (nI i + 1).toNatClampNeg), .int (xs (nI i + 2).toNatClampNeg), .int (xs (nI i + 3).toNatClampNeg)]) (rest := []) ⟨hx, hb, hml, hown, hts⟩ (c_X11_canOn (l := l) C 1 (xs (nI i + 1).toNatClampNeg) (xs (nI i + 2).toNatClampNeg) (xs (nI i + 3).toNatClampNeg) h.2.2.2.2.2.2.2.1.1 e1) (cwV 3 hts gL_law_X11_canOn rfl rfl rfl hdV_X11_canOn ⟨Nat.le_of_ble_eq_true rfl, Nat.le_of_ble_eq_true rfl⟩) (pC h hK hG) rfl rfl hl.1 rfl (lv_room (Nat.le_of_ble_eq_true rfl)) dL_law_436 ⟨by show cells + 0 ≤ 601024; omega, by show slots + 0 ≤ 7293034; omega⟩) (fun H locs h => ?_)
  have hS := h.2.2.2.2.1
  refine lv_aload_n hx hb dL_law_439 rfl (lv_at hl 3 rfl) ?_
  refine lv_aload_n hx hb dL_law_440 rfl (lv_at hl 1 rfl) ?_
  refine lv_iload hx hb dL_law_441 (lv_at hl 0 rfl) ?_
  refine lv_iconst (v := 1) hx hb dL_law_443 rfl ?_
  refine lv_iadd hx hb dL_law_444 ?_
  refine va_sld hx hb hX hbl hbA hS j1 dL_law_445 ?_
  refine lv_aload_n hx hb dL_law_446 rfl (lv_at hl 1 rfl) ?_
  refine lv_iload hx hb dL_law_447 (lv_at hl 0 rfl) ?_
  refine lv_iconst (v := 2) hx hb dL_law_449 rfl ?_
  refine lv_iadd hx hb dL_law_450 ?_
  refine va_sld hx hb hX hbl hbA hS j2 dL_law_451 ?_
  refine lv_aload_n hx hb dL_law_452 rfl (lv_at hl 1 rfl) ?_
  refine lv_iload hx hb dL_law_453 (lv_at hl 0 rfl) ?_
  refine lv_iconst (v := 3) hx hb dL_law_455 rfl ?_
  refine lv_iadd hx hb dL_law_456 ?_
  refine va_sld hx hb hX hbl hbA hS j3 dL_law_457 ?_
  refine lwR_i (Z := r) (R2 := R2) h (va_runV (As := [.int (xs (nI i + 1).toNatClampNeg), .int (xs (nI i + 2).toNatClampNeg), .int (xs (nI i + 3).toNatClampNeg)]) (rest := [.int r]) ⟨hx, hb, hml, hown, hts⟩ (c_X13_canOn (l := l) R 118 (xs (nI i + 1).toNatClampNeg) (xs (nI i + 2).toNatClampNeg) (xs (nI i + 3).toNatClampNeg) h.2.2.2.2.2.2.2.2.1.1 e2) (cwV 3 hts gL_law_X13_canOn rfl rfl rfl hdV_X13_canOn ⟨Nat.le_of_ble_eq_true rfl, Nat.le_of_ble_eq_true rfl⟩) (pR0 h hK hG) rfl rfl hl.1 rfl (lv_room (Nat.le_of_ble_eq_true rfl)) dL_law_458 ⟨by show cells + 0 ≤ 601024; omega, by show slots + 0 ≤ 7293034; omega⟩) (fun H locs h => ?_)
  have hS := h.2.2.2.2.1
  refine lv_icmp_eq (tgt := 1824) hx hb dL_law_461 rfl (fun _ => ?_) (fun c => absurd rfl c)
  refine W.widen (k := cells + 33) (n := slots + 336) (by omega) (by omega) ?_
  exact kk adR gR0 top C2 R2 H locs ls h hT2 hl
set_option maxHeartbeats 4000000 in
set_option maxRecDepth 100000 in
theorem law_c6 {p : Program} {l : Launch} {e : Env} {s : State} {m : MethodId} {below : List Frame} {meth : Method} {c : Code} {cells slots b L : Nat} {xs : Nat → Int32} {D : va_G} {cy : Nat → ClassId} {q : SE} {adC adR : Nat → Nat} {gC gR0 : CG} {top : Nat} {C R : MM} {H : Heap} {locs : List Loc} {ls : Array Slot} {Q : State → Prop} {i : Nat} (hst : l.stackTraces = false) (K : LawC p s m c b L xs D cy q) (hcl : cells + 33 ≤ 601024) (hsl : slots + 336 ≤ 7293034) (hL : L ≤ 3072) (hi : i + 6 ≤ L) (h : LW D cy s (adC 1) (adR 118) (adC 118) adC gC adR gR0 top C R H locs) (hT : TOP C R) (hl : lv_has ls 7 [(4, .int (nI i)), (0, .ref b), (1, .ref (adC 1)), (2, .ref (adR 118)), (3, .ref (adC 118))])
    (kk : ∀ (adR2 : Nat → Nat) (gR2 : CG) (top2 : Nat) (C2 R2 : MM) (H2 : Heap) (locs2 : List Loc) (ls2 : Array Slot), LW D cy s (adC 1) (adR 118) (adC 118) adC gC adR2 gR2 top2 C2 R2 H2 locs2 → TOP C2 R2 → lv_has ls2 7 [(4, .int (nI i)), (0, .ref b), (1, .ref (adC 1)), (2, .ref (adR 118)), (3, .ref (adC 118))] → W p l e room_1 s m #[.ref b] below meth c H2 locs2 (cells + 33) (slots + 336) Q (F0 m 1824 ls2 [])) : W p l e room_1 s m #[.ref b] below meth c H locs cells slots Q (F0 m 466 ls []) := by
  obtain ⟨hx, hb, hml, hown, hts, hX, hbl, hK, hG, hLX⟩ := K
  have hbA : ¬ lwA s b := Nat.not_le.mpr hbl
  have hS := h.2.2.2.2.1
  have j1 : vp_in (nI i + 1) L := by
    rw [nI_1 i]
    exact vp_in_nI (by omega) (by omega)
  have j2 : vp_in (nI i + 2) L := by
    rw [show (2 : Int32) = nI 2 from rfl, nI_add]
    exact vp_in_nI (by omega) (by omega)
  have j3 : vp_in (nI i + 3) L := by
    rw [show (3 : Int32) = nI 3 from rfl, nI_add]
    exact vp_in_nI (by omega) (by omega)
  obtain ⟨jo, sc, ic, sp, hS0, hR0, -, -, hV0, -, hI0⟩ := id hT
  refine lv_aload_n hx hb dL_law_466 rfl (lv_at hl 2 rfl) ?_
  refine lv_aload_n hx hb dL_law_467 rfl (lv_at hl 1 rfl) ?_
  refine lv_iload hx hb dL_law_468 (lv_at hl 0 rfl) ?_
  refine lv_iconst (v := 1) hx hb dL_law_470 rfl ?_
  refine lv_iadd hx hb dL_law_471 ?_
  refine va_sld hx hb hX hbl hbA hS j1 dL_law_472 ?_
  refine lv_aload_n hx hb dL_law_473 rfl (lv_at hl 1 rfl) ?_
  refine lv_iload hx hb dL_law_474 (lv_at hl 0 rfl) ?_
  refine lv_iconst (v := 2) hx hb dL_law_476 rfl ?_
  refine lv_iadd hx hb dL_law_477 ?_
  refine va_sld hx hb hX hbl hbA hS j2 dL_law_478 ?_
  refine lv_aload_n hx hb dL_law_479 rfl (lv_at hl 1 rfl) ?_
  refine lv_iload hx hb dL_law_480 (lv_at hl 0 rfl) ?_
  refine lv_iconst (v := 3) hx hb dL_law_482 rfl ?_
  refine lv_iadd hx hb dL_law_483 ?_
  refine va_sld hx hb hX hbl hbA hS j3 dL_law_484 ?_
  refine lv_if_eq (tgt := 492) hx hb dL_law_485 rfl (fun c1 => ?_) (fun c1 => ?_)
  · skip
    refine lv_iconst (v := 0) hx hb dL_law_492 rfl ?_
    obtain ⟨r, C2, R2, e1, e2, hT2⟩ : FT C R (f_X11_steepest C 1 (xs (nI i + 1).toNatClampNeg) (xs (nI i + 2).toNatClampNeg) 0) (f_X13_steepest R 118 (xs (nI i + 1).toNatClampNeg) (xs (nI i + 2).toNatClampNeg) 0) := (q_steepest hS0 hI0.ir (xs (nI i + 1).toNatClampNeg) (xs (nI i + 2).toNatClampNeg) 0).top hT
    refine lwC_i (Z := r) (C2 := C2) h (va_runV (As := [.int (xs (nI i + 1).toNatClampNeg), .int (xs (nI i + 2).toNatClampNeg), .int 0]) (rest := []) ⟨hx, hb, hml, hown, hts⟩ (c_X11_steepest (l := l) C 1 (xs (nI i + 1).toNatClampNeg) (xs (nI i + 2).toNatClampNeg) 0 h.2.2.2.2.2.2.2.1.1 e1) (cwV 3 hts gL_law_X11_steepest rfl rfl rfl hdV_X11_steepest ⟨Nat.le_of_ble_eq_true rfl, Nat.le_of_ble_eq_true rfl⟩) (pC h hK hG) rfl rfl hl.1 rfl (lv_room (Nat.le_of_ble_eq_true rfl)) dL_law_493 ⟨by show cells + 0 ≤ 601024; omega, by show slots + 0 ≤ 7293034; omega⟩) (fun H locs h => ?_)
    have hS := h.2.2.2.2.1
    refine lv_aload_n hx hb dL_law_496 rfl (lv_at hl 3 rfl) ?_
    refine lv_aload_n hx hb dL_law_497 rfl (lv_at hl 1 rfl) ?_
    refine lv_iload hx hb dL_law_498 (lv_at hl 0 rfl) ?_
    refine lv_iconst (v := 1) hx hb dL_law_500 rfl ?_
    refine lv_iadd hx hb dL_law_501 ?_
    refine va_sld hx hb hX hbl hbA hS j1 dL_law_502 ?_
    refine lv_aload_n hx hb dL_law_503 rfl (lv_at hl 1 rfl) ?_
    refine lv_iload hx hb dL_law_504 (lv_at hl 0 rfl) ?_
    refine lv_iconst (v := 2) hx hb dL_law_506 rfl ?_
    refine lv_iadd hx hb dL_law_507 ?_
    refine va_sld hx hb hX hbl hbA hS j2 dL_law_508 ?_
    refine lv_aload_n hx hb dL_law_509 rfl (lv_at hl 1 rfl) ?_
    refine lv_iload hx hb dL_law_510 (lv_at hl 0 rfl) ?_
    refine lv_iconst (v := 3) hx hb dL_law_512 rfl ?_
    refine lv_iadd hx hb dL_law_513 ?_
    refine va_sld hx hb hX hbl hbA hS j3 dL_law_514 ?_
    refine lv_if_eq (tgt := 522) hx hb dL_law_515 rfl (fun _ => ?_) (fun c => absurd c1 c)
    refine lv_iconst (v := 0) hx hb dL_law_522 rfl ?_
    refine lwR_i (Z := r) (R2 := R2) h (va_runV (As := [.int (xs (nI i + 1).toNatClampNeg), .int (xs (nI i + 2).toNatClampNeg), .int 0]) (rest := [.int r]) ⟨hx, hb, hml, hown, hts⟩ (c_X13_steepest (l := l) R 118 (xs (nI i + 1).toNatClampNeg) (xs (nI i + 2).toNatClampNeg) 0 h.2.2.2.2.2.2.2.2.1.1 e2) (cwV 3 hts gL_law_X13_steepest rfl rfl rfl hdV_X13_steepest ⟨Nat.le_of_ble_eq_true rfl, Nat.le_of_ble_eq_true rfl⟩) (pR0 h hK hG) rfl rfl hl.1 rfl (lv_room (Nat.le_of_ble_eq_true rfl)) dL_law_523 ⟨by show cells + 0 ≤ 601024; omega, by show slots + 0 ≤ 7293034; omega⟩) (fun H locs h => ?_)
    have hS := h.2.2.2.2.1
    refine lv_icmp_eq (tgt := 1824) hx hb dL_law_526 rfl (fun _ => ?_) (fun c => absurd rfl c)
    refine W.widen (k := cells + 33) (n := slots + 336) (by omega) (by omega) ?_
    exact kk adR gR0 top C2 R2 H locs ls h hT2 hl
  · skip
    refine lv_iconst (v := 1) hx hb dL_law_488 rfl ?_
    refine lv_goto (tgt := 493) hx hb dL_law_489 rfl ?_
    obtain ⟨r, C2, R2, e1, e2, hT2⟩ : FT C R (f_X11_steepest C 1 (xs (nI i + 1).toNatClampNeg) (xs (nI i + 2).toNatClampNeg) 1) (f_X13_steepest R 118 (xs (nI i + 1).toNatClampNeg) (xs (nI i + 2).toNatClampNeg) 1) := (q_steepest hS0 hI0.ir (xs (nI i + 1).toNatClampNeg) (xs (nI i + 2).toNatClampNeg) 1).top hT
    refine lwC_i (Z := r) (C2 := C2) h (va_runV (As := [.int (xs (nI i + 1).toNatClampNeg), .int (xs (nI i + 2).toNatClampNeg), .int 1]) (rest := []) ⟨hx, hb, hml, hown, hts⟩ (c_X11_steepest (l := l) C 1 (xs (nI i + 1).toNatClampNeg) (xs (nI i + 2).toNatClampNeg) 1 h.2.2.2.2.2.2.2.1.1 e1) (cwV 3 hts gL_law_X11_steepest rfl rfl rfl hdV_X11_steepest ⟨Nat.le_of_ble_eq_true rfl, Nat.le_of_ble_eq_true rfl⟩) (pC h hK hG) rfl rfl hl.1 rfl (lv_room (Nat.le_of_ble_eq_true rfl)) dL_law_493 ⟨by show cells + 0 ≤ 601024; omega, by show slots + 0 ≤ 7293034; omega⟩) (fun H locs h => ?_)
    have hS := h.2.2.2.2.1
    refine lv_aload_n hx hb dL_law_496 rfl (lv_at hl 3 rfl) ?_
    refine lv_aload_n hx hb dL_law_497 rfl (lv_at hl 1 rfl) ?_
    refine lv_iload hx hb dL_law_498 (lv_at hl 0 rfl) ?_
    refine lv_iconst (v := 1) hx hb dL_law_500 rfl ?_
    refine lv_iadd hx hb dL_law_501 ?_
    refine va_sld hx hb hX hbl hbA hS j1 dL_law_502 ?_
    refine lv_aload_n hx hb dL_law_503 rfl (lv_at hl 1 rfl) ?_
    refine lv_iload hx hb dL_law_504 (lv_at hl 0 rfl) ?_
    refine lv_iconst (v := 2) hx hb dL_law_506 rfl ?_
    refine lv_iadd hx hb dL_law_507 ?_
    refine va_sld hx hb hX hbl hbA hS j2 dL_law_508 ?_
    refine lv_aload_n hx hb dL_law_509 rfl (lv_at hl 1 rfl) ?_
    refine lv_iload hx hb dL_law_510 (lv_at hl 0 rfl) ?_
    refine lv_iconst (v := 3) hx hb dL_law_512 rfl ?_
    refine lv_iadd hx hb dL_law_513 ?_
    refine va_sld hx hb hX hbl hbA hS j3 dL_law_514 ?_
    refine lv_if_eq (tgt := 522) hx hb dL_law_515 rfl (fun c => absurd c c1) (fun _ => ?_)
    refine lv_iconst (v := 1) hx hb dL_law_518 rfl ?_
    refine lv_goto (tgt := 523) hx hb dL_law_519 rfl ?_
    refine lwR_i (Z := r) (R2 := R2) h (va_runV (As := [.int (xs (nI i + 1).toNatClampNeg), .int (xs (nI i + 2).toNatClampNeg), .int 1]) (rest := [.int r]) ⟨hx, hb, hml, hown, hts⟩ (c_X13_steepest (l := l) R 118 (xs (nI i + 1).toNatClampNeg) (xs (nI i + 2).toNatClampNeg) 1 h.2.2.2.2.2.2.2.2.1.1 e2) (cwV 3 hts gL_law_X13_steepest rfl rfl rfl hdV_X13_steepest ⟨Nat.le_of_ble_eq_true rfl, Nat.le_of_ble_eq_true rfl⟩) (pR0 h hK hG) rfl rfl hl.1 rfl (lv_room (Nat.le_of_ble_eq_true rfl)) dL_law_523 ⟨by show cells + 0 ≤ 601024; omega, by show slots + 0 ≤ 7293034; omega⟩) (fun H locs h => ?_)
    have hS := h.2.2.2.2.1
    refine lv_icmp_eq (tgt := 1824) hx hb dL_law_526 rfl (fun _ => ?_) (fun c => absurd rfl c)
    refine W.widen (k := cells + 33) (n := slots + 336) (by omega) (by omega) ?_
    exact kk adR gR0 top C2 R2 H locs ls h hT2 hl
set_option maxHeartbeats 4000000 in
set_option maxRecDepth 100000 in
theorem law_c7 {p : Program} {l : Launch} {e : Env} {s : State} {m : MethodId} {below : List Frame} {meth : Method} {c : Code} {cells slots b L : Nat} {xs : Nat → Int32} {D : va_G} {cy : Nat → ClassId} {q : SE} {adC adR : Nat → Nat} {gC gR0 : CG} {top : Nat} {C R : MM} {H : Heap} {locs : List Loc} {ls : Array Slot} {Q : State → Prop} {i : Nat} (hst : l.stackTraces = false) (K : LawC p s m c b L xs D cy q) (hcl : cells + 33 ≤ 601024) (hsl : slots + 336 ≤ 7293034) (hL : L ≤ 3072) (hi : i + 6 ≤ L) (h : LW D cy s (adC 1) (adR 118) (adC 118) adC gC adR gR0 top C R H locs) (hT : TOP C R) (hl : lv_has ls 7 [(4, .int (nI i)), (0, .ref b), (1, .ref (adC 1)), (2, .ref (adR 118)), (3, .ref (adC 118))])
    (kk : ∀ (adR2 : Nat → Nat) (gR2 : CG) (top2 : Nat) (C2 R2 : MM) (H2 : Heap) (locs2 : List Loc) (ls2 : Array Slot), LW D cy s (adC 1) (adR 118) (adC 118) adC gC adR2 gR2 top2 C2 R2 H2 locs2 → TOP C2 R2 → lv_has ls2 7 [(4, .int (nI i)), (0, .ref b), (1, .ref (adC 1)), (2, .ref (adR 118)), (3, .ref (adC 118))] → W p l e room_1 s m #[.ref b] below meth c H2 locs2 (cells + 33) (slots + 336) Q (F0 m 1824 ls2 [])) : W p l e room_1 s m #[.ref b] below meth c H locs cells slots Q (F0 m 531 ls []) := by
  obtain ⟨hx, hb, hml, hown, hts, hX, hbl, hK, hG, hLX⟩ := K
  have hbA : ¬ lwA s b := Nat.not_le.mpr hbl
  have hS := h.2.2.2.2.1
  have j1 : vp_in (nI i + 1) L := by
    rw [nI_1 i]
    exact vp_in_nI (by omega) (by omega)
  have j2 : vp_in (nI i + 2) L := by
    rw [show (2 : Int32) = nI 2 from rfl, nI_add]
    exact vp_in_nI (by omega) (by omega)
  have j3 : vp_in (nI i + 3) L := by
    rw [show (3 : Int32) = nI 3 from rfl, nI_add]
    exact vp_in_nI (by omega) (by omega)
  obtain ⟨jo, sc, ic, sp, hS0, hR0, -, -, hV0, -, hI0⟩ := id hT
  refine lv_aload_n hx hb dL_law_531 rfl (lv_at hl 2 rfl) ?_
  refine lv_aload_n hx hb dL_law_532 rfl (lv_at hl 1 rfl) ?_
  refine lv_iload hx hb dL_law_533 (lv_at hl 0 rfl) ?_
  refine lv_iconst (v := 1) hx hb dL_law_535 rfl ?_
  refine lv_iadd hx hb dL_law_536 ?_
  refine va_sld hx hb hX hbl hbA hS j1 dL_law_537 ?_
  refine lv_aload_n hx hb dL_law_538 rfl (lv_at hl 1 rfl) ?_
  refine lv_iload hx hb dL_law_539 (lv_at hl 0 rfl) ?_
  refine lv_iconst (v := 2) hx hb dL_law_541 rfl ?_
  refine lv_iadd hx hb dL_law_542 ?_
  refine va_sld hx hb hX hbl hbA hS j2 dL_law_543 ?_
  refine lv_aload_n hx hb dL_law_544 rfl (lv_at hl 1 rfl) ?_
  refine lv_iload hx hb dL_law_545 (lv_at hl 0 rfl) ?_
  refine lv_iconst (v := 3) hx hb dL_law_547 rfl ?_
  refine lv_iadd hx hb dL_law_548 ?_
  refine va_sld hx hb hX hbl hbA hS j3 dL_law_549 ?_
  obtain ⟨r, C2, R2, e1, e2, hT2⟩ : FT C R (f_X11_need C 1 (xs (nI i + 1).toNatClampNeg) (xs (nI i + 2).toNatClampNeg) (xs (nI i + 3).toNatClampNeg)) (f_X13_need R 118 (xs (nI i + 1).toNatClampNeg) (xs (nI i + 2).toNatClampNeg) (xs (nI i + 3).toNatClampNeg)) := (q_need hS0 hI0.ir (xs (nI i + 1).toNatClampNeg) (xs (nI i + 2).toNatClampNeg) (xs (nI i + 3).toNatClampNeg)).top hT
  refine lwC_i (Z := r) (C2 := C2) h (va_runV (As := [.int (xs (nI i + 1).toNatClampNeg), .int (xs (nI i + 2).toNatClampNeg), .int (xs (nI i + 3).toNatClampNeg)]) (rest := []) ⟨hx, hb, hml, hown, hts⟩ (c_X11_need (l := l) C 1 (xs (nI i + 1).toNatClampNeg) (xs (nI i + 2).toNatClampNeg) (xs (nI i + 3).toNatClampNeg) h.2.2.2.2.2.2.2.1.1 e1) (cwV 3 hts gL_law_X11_need rfl rfl rfl hdV_X11_need ⟨Nat.le_of_ble_eq_true rfl, Nat.le_of_ble_eq_true rfl⟩) (pC h hK hG) rfl rfl hl.1 rfl (lv_room (Nat.le_of_ble_eq_true rfl)) dL_law_550 ⟨by show cells + 0 ≤ 601024; omega, by show slots + 0 ≤ 7293034; omega⟩) (fun H locs h => ?_)
  have hS := h.2.2.2.2.1
  refine lv_aload_n hx hb dL_law_553 rfl (lv_at hl 3 rfl) ?_
  refine lv_aload_n hx hb dL_law_554 rfl (lv_at hl 1 rfl) ?_
  refine lv_iload hx hb dL_law_555 (lv_at hl 0 rfl) ?_
  refine lv_iconst (v := 1) hx hb dL_law_557 rfl ?_
  refine lv_iadd hx hb dL_law_558 ?_
  refine va_sld hx hb hX hbl hbA hS j1 dL_law_559 ?_
  refine lv_aload_n hx hb dL_law_560 rfl (lv_at hl 1 rfl) ?_
  refine lv_iload hx hb dL_law_561 (lv_at hl 0 rfl) ?_
  refine lv_iconst (v := 2) hx hb dL_law_563 rfl ?_
  refine lv_iadd hx hb dL_law_564 ?_
  refine va_sld hx hb hX hbl hbA hS j2 dL_law_565 ?_
  refine lv_aload_n hx hb dL_law_566 rfl (lv_at hl 1 rfl) ?_
  refine lv_iload hx hb dL_law_567 (lv_at hl 0 rfl) ?_
  refine lv_iconst (v := 3) hx hb dL_law_569 rfl ?_
  refine lv_iadd hx hb dL_law_570 ?_
  refine va_sld hx hb hX hbl hbA hS j3 dL_law_571 ?_
  refine lwR_i (Z := r) (R2 := R2) h (va_runV (As := [.int (xs (nI i + 1).toNatClampNeg), .int (xs (nI i + 2).toNatClampNeg), .int (xs (nI i + 3).toNatClampNeg)]) (rest := [.int r]) ⟨hx, hb, hml, hown, hts⟩ (c_X13_need (l := l) R 118 (xs (nI i + 1).toNatClampNeg) (xs (nI i + 2).toNatClampNeg) (xs (nI i + 3).toNatClampNeg) h.2.2.2.2.2.2.2.2.1.1 e2) (cwV 3 hts gL_law_X13_need rfl rfl rfl hdV_X13_need ⟨Nat.le_of_ble_eq_true rfl, Nat.le_of_ble_eq_true rfl⟩) (pR0 h hK hG) rfl rfl hl.1 rfl (lv_room (Nat.le_of_ble_eq_true rfl)) dL_law_572 ⟨by show cells + 0 ≤ 601024; omega, by show slots + 0 ≤ 7293034; omega⟩) (fun H locs h => ?_)
  have hS := h.2.2.2.2.1
  refine lv_icmp_eq (tgt := 1824) hx hb dL_law_575 rfl (fun _ => ?_) (fun c => absurd rfl c)
  refine W.widen (k := cells + 33) (n := slots + 336) (by omega) (by omega) ?_
  exact kk adR gR0 top C2 R2 H locs ls h hT2 hl
set_option maxHeartbeats 4000000 in
set_option maxRecDepth 100000 in
theorem law_c8 {p : Program} {l : Launch} {e : Env} {s : State} {m : MethodId} {below : List Frame} {meth : Method} {c : Code} {cells slots b L : Nat} {xs : Nat → Int32} {D : va_G} {cy : Nat → ClassId} {q : SE} {adC adR : Nat → Nat} {gC gR0 : CG} {top : Nat} {C R : MM} {H : Heap} {locs : List Loc} {ls : Array Slot} {Q : State → Prop} {i : Nat} (hst : l.stackTraces = false) (K : LawC p s m c b L xs D cy q) (hcl : cells + 33 ≤ 601024) (hsl : slots + 336 ≤ 7293034) (hL : L ≤ 3072) (hi : i + 6 ≤ L) (h : LW D cy s (adC 1) (adR 118) (adC 118) adC gC adR gR0 top C R H locs) (hT : TOP C R) (hl : lv_has ls 7 [(4, .int (nI i)), (0, .ref b), (1, .ref (adC 1)), (2, .ref (adR 118)), (3, .ref (adC 118))])
    (kk : ∀ (adR2 : Nat → Nat) (gR2 : CG) (top2 : Nat) (C2 R2 : MM) (H2 : Heap) (locs2 : List Loc) (ls2 : Array Slot), LW D cy s (adC 1) (adR 118) (adC 118) adC gC adR2 gR2 top2 C2 R2 H2 locs2 → TOP C2 R2 → lv_has ls2 7 [(4, .int (nI i)), (0, .ref b), (1, .ref (adC 1)), (2, .ref (adR 118)), (3, .ref (adC 118))] → W p l e room_1 s m #[.ref b] below meth c H2 locs2 (cells + 33) (slots + 336) Q (F0 m 1824 ls2 [])) : W p l e room_1 s m #[.ref b] below meth c H locs cells slots Q (F0 m 580 ls []) := by
  obtain ⟨hx, hb, hml, hown, hts, hX, hbl, hK, hG, hLX⟩ := K
  have hbA : ¬ lwA s b := Nat.not_le.mpr hbl
  have hS := h.2.2.2.2.1
  have j1 : vp_in (nI i + 1) L := by
    rw [nI_1 i]
    exact vp_in_nI (by omega) (by omega)
  have j2 : vp_in (nI i + 2) L := by
    rw [show (2 : Int32) = nI 2 from rfl, nI_add]
    exact vp_in_nI (by omega) (by omega)
  have j3 : vp_in (nI i + 3) L := by
    rw [show (3 : Int32) = nI 3 from rfl, nI_add]
    exact vp_in_nI (by omega) (by omega)
  have j4 : vp_in (nI i + 4) L := by
    rw [show (4 : Int32) = nI 4 from rfl, nI_add]
    exact vp_in_nI (by omega) (by omega)
  obtain ⟨jo, sc, ic, sp, hS0, hR0, -, -, hV0, -, hI0⟩ := id hT
  refine lv_aload_n hx hb dL_law_580 rfl (lv_at hl 2 rfl) ?_
  refine lv_aload_n hx hb dL_law_581 rfl (lv_at hl 1 rfl) ?_
  refine lv_iload hx hb dL_law_582 (lv_at hl 0 rfl) ?_
  refine lv_iconst (v := 1) hx hb dL_law_584 rfl ?_
  refine lv_iadd hx hb dL_law_585 ?_
  refine va_sld hx hb hX hbl hbA hS j1 dL_law_586 ?_
  refine lv_aload_n hx hb dL_law_587 rfl (lv_at hl 1 rfl) ?_
  refine lv_iload hx hb dL_law_588 (lv_at hl 0 rfl) ?_
  refine lv_iconst (v := 2) hx hb dL_law_590 rfl ?_
  refine lv_iadd hx hb dL_law_591 ?_
  refine va_sld hx hb hX hbl hbA hS j2 dL_law_592 ?_
  refine lv_aload_n hx hb dL_law_593 rfl (lv_at hl 1 rfl) ?_
  refine lv_iload hx hb dL_law_594 (lv_at hl 0 rfl) ?_
  refine lv_iconst (v := 3) hx hb dL_law_596 rfl ?_
  refine lv_iadd hx hb dL_law_597 ?_
  refine va_sld hx hb hX hbl hbA hS j3 dL_law_598 ?_
  refine lv_aload_n hx hb dL_law_599 rfl (lv_at hl 1 rfl) ?_
  refine lv_iload hx hb dL_law_600 (lv_at hl 0 rfl) ?_
  refine lv_iconst (v := 4) hx hb dL_law_602 rfl ?_
  refine lv_iadd hx hb dL_law_603 ?_
  refine va_sld hx hb hX hbl hbA hS j4 dL_law_604 ?_
  obtain ⟨r, C2, R2, e1, e2, hT2⟩ : FT C R (f_X11_minutes C 1 (xs (nI i + 1).toNatClampNeg) (xs (nI i + 2).toNatClampNeg) (xs (nI i + 3).toNatClampNeg) (xs (nI i + 4).toNatClampNeg)) (f_X13_minutes R 118 (xs (nI i + 1).toNatClampNeg) (xs (nI i + 2).toNatClampNeg) (xs (nI i + 3).toNatClampNeg) (xs (nI i + 4).toNatClampNeg)) := (q_minutes hS0 hI0.ir (xs (nI i + 1).toNatClampNeg) (xs (nI i + 2).toNatClampNeg) (xs (nI i + 3).toNatClampNeg) (xs (nI i + 4).toNatClampNeg)).top hT
  refine lwC_i (Z := r) (C2 := C2) h (va_runV (As := [.int (xs (nI i + 1).toNatClampNeg), .int (xs (nI i + 2).toNatClampNeg), .int (xs (nI i + 3).toNatClampNeg), .int (xs (nI i + 4).toNatClampNeg)]) (rest := []) ⟨hx, hb, hml, hown, hts⟩ (c_X11_minutes (l := l) C 1 (xs (nI i + 1).toNatClampNeg) (xs (nI i + 2).toNatClampNeg) (xs (nI i + 3).toNatClampNeg) (xs (nI i + 4).toNatClampNeg) h.2.2.2.2.2.2.2.1.1 e1) (cwV 4 hts gL_law_X11_minutes rfl rfl rfl hdV_X11_minutes ⟨Nat.le_of_ble_eq_true rfl, Nat.le_of_ble_eq_true rfl⟩) (pC h hK hG) rfl rfl hl.1 rfl (lv_room (Nat.le_of_ble_eq_true rfl)) dL_law_605 ⟨by show cells + 0 ≤ 601024; omega, by show slots + 0 ≤ 7293034; omega⟩) (fun H locs h => ?_)
  have hS := h.2.2.2.2.1
  refine lv_aload_n hx hb dL_law_608 rfl (lv_at hl 3 rfl) ?_
  refine lv_aload_n hx hb dL_law_609 rfl (lv_at hl 1 rfl) ?_
  refine lv_iload hx hb dL_law_610 (lv_at hl 0 rfl) ?_
  refine lv_iconst (v := 1) hx hb dL_law_612 rfl ?_
  refine lv_iadd hx hb dL_law_613 ?_
  refine va_sld hx hb hX hbl hbA hS j1 dL_law_614 ?_
  refine lv_aload_n hx hb dL_law_615 rfl (lv_at hl 1 rfl) ?_
  refine lv_iload hx hb dL_law_616 (lv_at hl 0 rfl) ?_
  refine lv_iconst (v := 2) hx hb dL_law_618 rfl ?_
  refine lv_iadd hx hb dL_law_619 ?_
  refine va_sld hx hb hX hbl hbA hS j2 dL_law_620 ?_
  refine lv_aload_n hx hb dL_law_621 rfl (lv_at hl 1 rfl) ?_
  refine lv_iload hx hb dL_law_622 (lv_at hl 0 rfl) ?_
  refine lv_iconst (v := 3) hx hb dL_law_624 rfl ?_
  refine lv_iadd hx hb dL_law_625 ?_
  refine va_sld hx hb hX hbl hbA hS j3 dL_law_626 ?_
  refine lv_aload_n hx hb dL_law_627 rfl (lv_at hl 1 rfl) ?_
  refine lv_iload hx hb dL_law_628 (lv_at hl 0 rfl) ?_
  refine lv_iconst (v := 4) hx hb dL_law_630 rfl ?_
  refine lv_iadd hx hb dL_law_631 ?_
  refine va_sld hx hb hX hbl hbA hS j4 dL_law_632 ?_
  refine lwR_i (Z := r) (R2 := R2) h (va_runV (As := [.int (xs (nI i + 1).toNatClampNeg), .int (xs (nI i + 2).toNatClampNeg), .int (xs (nI i + 3).toNatClampNeg), .int (xs (nI i + 4).toNatClampNeg)]) (rest := [.int r]) ⟨hx, hb, hml, hown, hts⟩ (c_X13_minutes (l := l) R 118 (xs (nI i + 1).toNatClampNeg) (xs (nI i + 2).toNatClampNeg) (xs (nI i + 3).toNatClampNeg) (xs (nI i + 4).toNatClampNeg) h.2.2.2.2.2.2.2.2.1.1 e2) (cwV 4 hts gL_law_X13_minutes rfl rfl rfl hdV_X13_minutes ⟨Nat.le_of_ble_eq_true rfl, Nat.le_of_ble_eq_true rfl⟩) (pR0 h hK hG) rfl rfl hl.1 rfl (lv_room (Nat.le_of_ble_eq_true rfl)) dL_law_633 ⟨by show cells + 0 ≤ 601024; omega, by show slots + 0 ≤ 7293034; omega⟩) (fun H locs h => ?_)
  have hS := h.2.2.2.2.1
  refine lv_icmp_eq (tgt := 1824) hx hb dL_law_636 rfl (fun _ => ?_) (fun c => absurd rfl c)
  refine W.widen (k := cells + 33) (n := slots + 336) (by omega) (by omega) ?_
  exact kk adR gR0 top C2 R2 H locs ls h hT2 hl
set_option maxHeartbeats 4000000 in
set_option maxRecDepth 100000 in
theorem law_c9 {p : Program} {l : Launch} {e : Env} {s : State} {m : MethodId} {below : List Frame} {meth : Method} {c : Code} {cells slots b L : Nat} {xs : Nat → Int32} {D : va_G} {cy : Nat → ClassId} {q : SE} {adC adR : Nat → Nat} {gC gR0 : CG} {top : Nat} {C R : MM} {H : Heap} {locs : List Loc} {ls : Array Slot} {Q : State → Prop} {i : Nat} (hst : l.stackTraces = false) (K : LawC p s m c b L xs D cy q) (hcl : cells + 33 ≤ 601024) (hsl : slots + 336 ≤ 7293034) (hL : L ≤ 3072) (hi : i + 6 ≤ L) (h : LW D cy s (adC 1) (adR 118) (adC 118) adC gC adR gR0 top C R H locs) (hT : TOP C R) (hl : lv_has ls 7 [(4, .int (nI i)), (0, .ref b), (1, .ref (adC 1)), (2, .ref (adR 118)), (3, .ref (adC 118))])
    (kk : ∀ (adR2 : Nat → Nat) (gR2 : CG) (top2 : Nat) (C2 R2 : MM) (H2 : Heap) (locs2 : List Loc) (ls2 : Array Slot), LW D cy s (adC 1) (adR 118) (adC 118) adC gC adR2 gR2 top2 C2 R2 H2 locs2 → TOP C2 R2 → lv_has ls2 7 [(4, .int (nI i)), (0, .ref b), (1, .ref (adC 1)), (2, .ref (adR 118)), (3, .ref (adC 118))] → W p l e room_1 s m #[.ref b] below meth c H2 locs2 (cells + 33) (slots + 336) Q (F0 m 1824 ls2 [])) : W p l e room_1 s m #[.ref b] below meth c H locs cells slots Q (F0 m 641 ls []) := by
  obtain ⟨hx, hb, hml, hown, hts, hX, hbl, hK, hG, hLX⟩ := K
  have hbA : ¬ lwA s b := Nat.not_le.mpr hbl
  have hS := h.2.2.2.2.1
  have j1 : vp_in (nI i + 1) L := by
    rw [nI_1 i]
    exact vp_in_nI (by omega) (by omega)
  have j2 : vp_in (nI i + 2) L := by
    rw [show (2 : Int32) = nI 2 from rfl, nI_add]
    exact vp_in_nI (by omega) (by omega)
  have j3 : vp_in (nI i + 3) L := by
    rw [show (3 : Int32) = nI 3 from rfl, nI_add]
    exact vp_in_nI (by omega) (by omega)
  obtain ⟨jo, sc, ic, sp, hS0, hR0, -, -, hV0, -, hI0⟩ := id hT
  refine lv_aload_n hx hb dL_law_641 rfl (lv_at hl 2 rfl) ?_
  refine lv_aload_n hx hb dL_law_642 rfl (lv_at hl 1 rfl) ?_
  refine lv_iload hx hb dL_law_643 (lv_at hl 0 rfl) ?_
  refine lv_iconst (v := 1) hx hb dL_law_645 rfl ?_
  refine lv_iadd hx hb dL_law_646 ?_
  refine va_sld hx hb hX hbl hbA hS j1 dL_law_647 ?_
  refine lv_aload_n hx hb dL_law_648 rfl (lv_at hl 1 rfl) ?_
  refine lv_iload hx hb dL_law_649 (lv_at hl 0 rfl) ?_
  refine lv_iconst (v := 2) hx hb dL_law_651 rfl ?_
  refine lv_iadd hx hb dL_law_652 ?_
  refine va_sld hx hb hX hbl hbA hS j2 dL_law_653 ?_
  refine lv_aload_n hx hb dL_law_654 rfl (lv_at hl 1 rfl) ?_
  refine lv_iload hx hb dL_law_655 (lv_at hl 0 rfl) ?_
  refine lv_iconst (v := 3) hx hb dL_law_657 rfl ?_
  refine lv_iadd hx hb dL_law_658 ?_
  refine va_sld hx hb hX hbl hbA hS j3 dL_law_659 ?_
  obtain ⟨r, C2, R2, e1, e2, hT2⟩ : FT C R (f_X11_chance C 1 (xs (nI i + 1).toNatClampNeg) (xs (nI i + 2).toNatClampNeg) (xs (nI i + 3).toNatClampNeg)) (f_X13_chance R 118 (xs (nI i + 1).toNatClampNeg) (xs (nI i + 2).toNatClampNeg) (xs (nI i + 3).toNatClampNeg)) := (q_chance hS0 hI0.ir (xs (nI i + 1).toNatClampNeg) (xs (nI i + 2).toNatClampNeg) (xs (nI i + 3).toNatClampNeg)).top hT
  refine lwC_i (Z := r) (C2 := C2) h (va_runV (As := [.int (xs (nI i + 1).toNatClampNeg), .int (xs (nI i + 2).toNatClampNeg), .int (xs (nI i + 3).toNatClampNeg)]) (rest := []) ⟨hx, hb, hml, hown, hts⟩ (c_X11_chance (l := l) C 1 (xs (nI i + 1).toNatClampNeg) (xs (nI i + 2).toNatClampNeg) (xs (nI i + 3).toNatClampNeg) h.2.2.2.2.2.2.2.1.1 e1) (cwV 3 hts gL_law_X11_chance rfl rfl rfl hdV_X11_chance ⟨Nat.le_of_ble_eq_true rfl, Nat.le_of_ble_eq_true rfl⟩) (pC h hK hG) rfl rfl hl.1 rfl (lv_room (Nat.le_of_ble_eq_true rfl)) dL_law_660 ⟨by show cells + 0 ≤ 601024; omega, by show slots + 0 ≤ 7293034; omega⟩) (fun H locs h => ?_)
  have hS := h.2.2.2.2.1
  refine lv_aload_n hx hb dL_law_663 rfl (lv_at hl 3 rfl) ?_
  refine lv_aload_n hx hb dL_law_664 rfl (lv_at hl 1 rfl) ?_
  refine lv_iload hx hb dL_law_665 (lv_at hl 0 rfl) ?_
  refine lv_iconst (v := 1) hx hb dL_law_667 rfl ?_
  refine lv_iadd hx hb dL_law_668 ?_
  refine va_sld hx hb hX hbl hbA hS j1 dL_law_669 ?_
  refine lv_aload_n hx hb dL_law_670 rfl (lv_at hl 1 rfl) ?_
  refine lv_iload hx hb dL_law_671 (lv_at hl 0 rfl) ?_
  refine lv_iconst (v := 2) hx hb dL_law_673 rfl ?_
  refine lv_iadd hx hb dL_law_674 ?_
  refine va_sld hx hb hX hbl hbA hS j2 dL_law_675 ?_
  refine lv_aload_n hx hb dL_law_676 rfl (lv_at hl 1 rfl) ?_
  refine lv_iload hx hb dL_law_677 (lv_at hl 0 rfl) ?_
  refine lv_iconst (v := 3) hx hb dL_law_679 rfl ?_
  refine lv_iadd hx hb dL_law_680 ?_
  refine va_sld hx hb hX hbl hbA hS j3 dL_law_681 ?_
  refine lwR_i (Z := r) (R2 := R2) h (va_runV (As := [.int (xs (nI i + 1).toNatClampNeg), .int (xs (nI i + 2).toNatClampNeg), .int (xs (nI i + 3).toNatClampNeg)]) (rest := [.int r]) ⟨hx, hb, hml, hown, hts⟩ (c_X13_chance (l := l) R 118 (xs (nI i + 1).toNatClampNeg) (xs (nI i + 2).toNatClampNeg) (xs (nI i + 3).toNatClampNeg) h.2.2.2.2.2.2.2.2.1.1 e2) (cwV 3 hts gL_law_X13_chance rfl rfl rfl hdV_X13_chance ⟨Nat.le_of_ble_eq_true rfl, Nat.le_of_ble_eq_true rfl⟩) (pR0 h hK hG) rfl rfl hl.1 rfl (lv_room (Nat.le_of_ble_eq_true rfl)) dL_law_682 ⟨by show cells + 0 ≤ 601024; omega, by show slots + 0 ≤ 7293034; omega⟩) (fun H locs h => ?_)
  have hS := h.2.2.2.2.1
  refine lv_icmp_eq (tgt := 1824) hx hb dL_law_685 rfl (fun _ => ?_) (fun c => absurd rfl c)
  refine W.widen (k := cells + 33) (n := slots + 336) (by omega) (by omega) ?_
  exact kk adR gR0 top C2 R2 H locs ls h hT2 hl
set_option maxHeartbeats 4000000 in
set_option maxRecDepth 100000 in
theorem law_c10 {p : Program} {l : Launch} {e : Env} {s : State} {m : MethodId} {below : List Frame} {meth : Method} {c : Code} {cells slots b L : Nat} {xs : Nat → Int32} {D : va_G} {cy : Nat → ClassId} {q : SE} {adC adR : Nat → Nat} {gC gR0 : CG} {top : Nat} {C R : MM} {H : Heap} {locs : List Loc} {ls : Array Slot} {Q : State → Prop} {i : Nat} (hst : l.stackTraces = false) (K : LawC p s m c b L xs D cy q) (hcl : cells + 33 ≤ 601024) (hsl : slots + 336 ≤ 7293034) (hL : L ≤ 3072) (hi : i + 6 ≤ L) (h : LW D cy s (adC 1) (adR 118) (adC 118) adC gC adR gR0 top C R H locs) (hT : TOP C R) (hl : lv_has ls 7 [(4, .int (nI i)), (0, .ref b), (1, .ref (adC 1)), (2, .ref (adR 118)), (3, .ref (adC 118))])
    (kk : ∀ (adR2 : Nat → Nat) (gR2 : CG) (top2 : Nat) (C2 R2 : MM) (H2 : Heap) (locs2 : List Loc) (ls2 : Array Slot), LW D cy s (adC 1) (adR 118) (adC 118) adC gC adR2 gR2 top2 C2 R2 H2 locs2 → TOP C2 R2 → lv_has ls2 7 [(4, .int (nI i)), (0, .ref b), (1, .ref (adC 1)), (2, .ref (adR 118)), (3, .ref (adC 118))] → W p l e room_1 s m #[.ref b] below meth c H2 locs2 (cells + 33) (slots + 336) Q (F0 m 1824 ls2 [])) : W p l e room_1 s m #[.ref b] below meth c H locs cells slots Q (F0 m 690 ls []) := by
  obtain ⟨hx, hb, hml, hown, hts, hX, hbl, hK, hG, hLX⟩ := K
  have hbA : ¬ lwA s b := Nat.not_le.mpr hbl
  have hS := h.2.2.2.2.1
  have j1 : vp_in (nI i + 1) L := by
    rw [nI_1 i]
    exact vp_in_nI (by omega) (by omega)
  have j2 : vp_in (nI i + 2) L := by
    rw [show (2 : Int32) = nI 2 from rfl, nI_add]
    exact vp_in_nI (by omega) (by omega)
  have j3 : vp_in (nI i + 3) L := by
    rw [show (3 : Int32) = nI 3 from rfl, nI_add]
    exact vp_in_nI (by omega) (by omega)
  obtain ⟨jo, sc, ic, sp, hS0, hR0, -, -, hV0, -, hI0⟩ := id hT
  refine lv_aload_n hx hb dL_law_690 rfl (lv_at hl 2 rfl) ?_
  refine lv_aload_n hx hb dL_law_691 rfl (lv_at hl 1 rfl) ?_
  refine lv_iload hx hb dL_law_692 (lv_at hl 0 rfl) ?_
  refine lv_iconst (v := 1) hx hb dL_law_694 rfl ?_
  refine lv_iadd hx hb dL_law_695 ?_
  refine va_sld hx hb hX hbl hbA hS j1 dL_law_696 ?_
  refine lv_aload_n hx hb dL_law_697 rfl (lv_at hl 1 rfl) ?_
  refine lv_iload hx hb dL_law_698 (lv_at hl 0 rfl) ?_
  refine lv_iconst (v := 2) hx hb dL_law_700 rfl ?_
  refine lv_iadd hx hb dL_law_701 ?_
  refine va_sld hx hb hX hbl hbA hS j2 dL_law_702 ?_
  refine lv_aload_n hx hb dL_law_703 rfl (lv_at hl 1 rfl) ?_
  refine lv_iload hx hb dL_law_704 (lv_at hl 0 rfl) ?_
  refine lv_iconst (v := 3) hx hb dL_law_706 rfl ?_
  refine lv_iadd hx hb dL_law_707 ?_
  refine va_sld hx hb hX hbl hbA hS j3 dL_law_708 ?_
  obtain ⟨r, C2, R2, e1, e2, hT2⟩ : FT C R (f_X11_lying C 1 (xs (nI i + 1).toNatClampNeg) (xs (nI i + 2).toNatClampNeg) (xs (nI i + 3).toNatClampNeg)) (f_X13_lying R 118 (xs (nI i + 1).toNatClampNeg) (xs (nI i + 2).toNatClampNeg) (xs (nI i + 3).toNatClampNeg)) := (q_lying hS0 hI0.ir (xs (nI i + 1).toNatClampNeg) (xs (nI i + 2).toNatClampNeg) (xs (nI i + 3).toNatClampNeg)).top hT
  refine lwC_i (Z := r) (C2 := C2) h (va_runV (As := [.int (xs (nI i + 1).toNatClampNeg), .int (xs (nI i + 2).toNatClampNeg), .int (xs (nI i + 3).toNatClampNeg)]) (rest := []) ⟨hx, hb, hml, hown, hts⟩ (c_X11_lying (l := l) C 1 (xs (nI i + 1).toNatClampNeg) (xs (nI i + 2).toNatClampNeg) (xs (nI i + 3).toNatClampNeg) h.2.2.2.2.2.2.2.1.1 e1) (cwV 3 hts gL_law_X11_lying rfl rfl rfl hdV_X11_lying ⟨Nat.le_of_ble_eq_true rfl, Nat.le_of_ble_eq_true rfl⟩) (pC h hK hG) rfl rfl hl.1 rfl (lv_room (Nat.le_of_ble_eq_true rfl)) dL_law_709 ⟨by show cells + 0 ≤ 601024; omega, by show slots + 0 ≤ 7293034; omega⟩) (fun H locs h => ?_)
  have hS := h.2.2.2.2.1
  refine lv_aload_n hx hb dL_law_712 rfl (lv_at hl 3 rfl) ?_
  refine lv_aload_n hx hb dL_law_713 rfl (lv_at hl 1 rfl) ?_
  refine lv_iload hx hb dL_law_714 (lv_at hl 0 rfl) ?_
  refine lv_iconst (v := 1) hx hb dL_law_716 rfl ?_
  refine lv_iadd hx hb dL_law_717 ?_
  refine va_sld hx hb hX hbl hbA hS j1 dL_law_718 ?_
  refine lv_aload_n hx hb dL_law_719 rfl (lv_at hl 1 rfl) ?_
  refine lv_iload hx hb dL_law_720 (lv_at hl 0 rfl) ?_
  refine lv_iconst (v := 2) hx hb dL_law_722 rfl ?_
  refine lv_iadd hx hb dL_law_723 ?_
  refine va_sld hx hb hX hbl hbA hS j2 dL_law_724 ?_
  refine lv_aload_n hx hb dL_law_725 rfl (lv_at hl 1 rfl) ?_
  refine lv_iload hx hb dL_law_726 (lv_at hl 0 rfl) ?_
  refine lv_iconst (v := 3) hx hb dL_law_728 rfl ?_
  refine lv_iadd hx hb dL_law_729 ?_
  refine va_sld hx hb hX hbl hbA hS j3 dL_law_730 ?_
  refine lwR_i (Z := r) (R2 := R2) h (va_runV (As := [.int (xs (nI i + 1).toNatClampNeg), .int (xs (nI i + 2).toNatClampNeg), .int (xs (nI i + 3).toNatClampNeg)]) (rest := [.int r]) ⟨hx, hb, hml, hown, hts⟩ (c_X13_lying (l := l) R 118 (xs (nI i + 1).toNatClampNeg) (xs (nI i + 2).toNatClampNeg) (xs (nI i + 3).toNatClampNeg) h.2.2.2.2.2.2.2.2.1.1 e2) (cwV 3 hts gL_law_X13_lying rfl rfl rfl hdV_X13_lying ⟨Nat.le_of_ble_eq_true rfl, Nat.le_of_ble_eq_true rfl⟩) (pR0 h hK hG) rfl rfl hl.1 rfl (lv_room (Nat.le_of_ble_eq_true rfl)) dL_law_731 ⟨by show cells + 0 ≤ 601024; omega, by show slots + 0 ≤ 7293034; omega⟩) (fun H locs h => ?_)
  have hS := h.2.2.2.2.1
  refine lv_icmp_eq (tgt := 1824) hx hb dL_law_734 rfl (fun _ => ?_) (fun c => absurd rfl c)
  refine W.widen (k := cells + 33) (n := slots + 336) (by omega) (by omega) ?_
  exact kk adR gR0 top C2 R2 H locs ls h hT2 hl
set_option maxHeartbeats 4000000 in
set_option maxRecDepth 100000 in
theorem law_c11 {p : Program} {l : Launch} {e : Env} {s : State} {m : MethodId} {below : List Frame} {meth : Method} {c : Code} {cells slots b L : Nat} {xs : Nat → Int32} {D : va_G} {cy : Nat → ClassId} {q : SE} {adC adR : Nat → Nat} {gC gR0 : CG} {top : Nat} {C R : MM} {H : Heap} {locs : List Loc} {ls : Array Slot} {Q : State → Prop} {i : Nat} (hst : l.stackTraces = false) (K : LawC p s m c b L xs D cy q) (hcl : cells + 33 ≤ 601024) (hsl : slots + 336 ≤ 7293034) (hL : L ≤ 3072) (hi : i + 6 ≤ L) (h : LW D cy s (adC 1) (adR 118) (adC 118) adC gC adR gR0 top C R H locs) (hT : TOP C R) (hl : lv_has ls 7 [(4, .int (nI i)), (0, .ref b), (1, .ref (adC 1)), (2, .ref (adR 118)), (3, .ref (adC 118))])
    (kk : ∀ (adR2 : Nat → Nat) (gR2 : CG) (top2 : Nat) (C2 R2 : MM) (H2 : Heap) (locs2 : List Loc) (ls2 : Array Slot), LW D cy s (adC 1) (adR 118) (adC 118) adC gC adR2 gR2 top2 C2 R2 H2 locs2 → TOP C2 R2 → lv_has ls2 7 [(4, .int (nI i)), (0, .ref b), (1, .ref (adC 1)), (2, .ref (adR 118)), (3, .ref (adC 118))] → W p l e room_1 s m #[.ref b] below meth c H2 locs2 (cells + 33) (slots + 336) Q (F0 m 1824 ls2 [])) : W p l e room_1 s m #[.ref b] below meth c H locs cells slots Q (F0 m 739 ls []) := by
  obtain ⟨hx, hb, hml, hown, hts, hX, hbl, hK, hG, hLX⟩ := K
  have hbA : ¬ lwA s b := Nat.not_le.mpr hbl
  have hS := h.2.2.2.2.1
  have j1 : vp_in (nI i + 1) L := by
    rw [nI_1 i]
    exact vp_in_nI (by omega) (by omega)
  have j2 : vp_in (nI i + 2) L := by
    rw [show (2 : Int32) = nI 2 from rfl, nI_add]
    exact vp_in_nI (by omega) (by omega)
  obtain ⟨jo, sc, ic, sp, hS0, hR0, -, -, hV0, -, hI0⟩ := id hT
  refine lv_aload_n hx hb dL_law_739 rfl (lv_at hl 2 rfl) ?_
  refine lv_aload_n hx hb dL_law_740 rfl (lv_at hl 1 rfl) ?_
  refine lv_iload hx hb dL_law_741 (lv_at hl 0 rfl) ?_
  refine lv_iconst (v := 1) hx hb dL_law_743 rfl ?_
  refine lv_iadd hx hb dL_law_744 ?_
  refine va_sld hx hb hX hbl hbA hS j1 dL_law_745 ?_
  refine lv_aload_n hx hb dL_law_746 rfl (lv_at hl 1 rfl) ?_
  refine lv_iload hx hb dL_law_747 (lv_at hl 0 rfl) ?_
  refine lv_iconst (v := 2) hx hb dL_law_749 rfl ?_
  refine lv_iadd hx hb dL_law_750 ?_
  refine va_sld hx hb hX hbl hbA hS j2 dL_law_751 ?_
  obtain ⟨r, C2, R2, e1, e2, hT2⟩ : FT C R (f_X11_easiest C 1 (xs (nI i + 1).toNatClampNeg) (xs (nI i + 2).toNatClampNeg)) (f_X13_easiest R 118 (xs (nI i + 1).toNatClampNeg) (xs (nI i + 2).toNatClampNeg)) := (q_easiest hS0 hI0.ir (xs (nI i + 1).toNatClampNeg) (xs (nI i + 2).toNatClampNeg)).top hT
  refine lwC_i (Z := r) (C2 := C2) h (va_runV (As := [.int (xs (nI i + 1).toNatClampNeg), .int (xs (nI i + 2).toNatClampNeg)]) (rest := []) ⟨hx, hb, hml, hown, hts⟩ (c_X11_easiest (l := l) C 1 (xs (nI i + 1).toNatClampNeg) (xs (nI i + 2).toNatClampNeg) h.2.2.2.2.2.2.2.1.1 e1) (cwV 2 hts gL_law_X11_easiest rfl rfl rfl hdV_X11_easiest ⟨Nat.le_of_ble_eq_true rfl, Nat.le_of_ble_eq_true rfl⟩) (pC h hK hG) rfl rfl hl.1 rfl (lv_room (Nat.le_of_ble_eq_true rfl)) dL_law_752 ⟨by show cells + 0 ≤ 601024; omega, by show slots + 0 ≤ 7293034; omega⟩) (fun H locs h => ?_)
  have hS := h.2.2.2.2.1
  refine lv_aload_n hx hb dL_law_755 rfl (lv_at hl 3 rfl) ?_
  refine lv_aload_n hx hb dL_law_756 rfl (lv_at hl 1 rfl) ?_
  refine lv_iload hx hb dL_law_757 (lv_at hl 0 rfl) ?_
  refine lv_iconst (v := 1) hx hb dL_law_759 rfl ?_
  refine lv_iadd hx hb dL_law_760 ?_
  refine va_sld hx hb hX hbl hbA hS j1 dL_law_761 ?_
  refine lv_aload_n hx hb dL_law_762 rfl (lv_at hl 1 rfl) ?_
  refine lv_iload hx hb dL_law_763 (lv_at hl 0 rfl) ?_
  refine lv_iconst (v := 2) hx hb dL_law_765 rfl ?_
  refine lv_iadd hx hb dL_law_766 ?_
  refine va_sld hx hb hX hbl hbA hS j2 dL_law_767 ?_
  refine lwR_i (Z := r) (R2 := R2) h (va_runV (As := [.int (xs (nI i + 1).toNatClampNeg), .int (xs (nI i + 2).toNatClampNeg)]) (rest := [.int r]) ⟨hx, hb, hml, hown, hts⟩ (c_X13_easiest (l := l) R 118 (xs (nI i + 1).toNatClampNeg) (xs (nI i + 2).toNatClampNeg) h.2.2.2.2.2.2.2.2.1.1 e2) (cwV 2 hts gL_law_X13_easiest rfl rfl rfl hdV_X13_easiest ⟨Nat.le_of_ble_eq_true rfl, Nat.le_of_ble_eq_true rfl⟩) (pR0 h hK hG) rfl rfl hl.1 rfl (lv_room (Nat.le_of_ble_eq_true rfl)) dL_law_768 ⟨by show cells + 0 ≤ 601024; omega, by show slots + 0 ≤ 7293034; omega⟩) (fun H locs h => ?_)
  have hS := h.2.2.2.2.1
  refine lv_icmp_eq (tgt := 1824) hx hb dL_law_771 rfl (fun _ => ?_) (fun c => absurd rfl c)
  refine W.widen (k := cells + 33) (n := slots + 336) (by omega) (by omega) ?_
  exact kk adR gR0 top C2 R2 H locs ls h hT2 hl
