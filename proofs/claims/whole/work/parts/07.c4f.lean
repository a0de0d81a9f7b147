set_option maxHeartbeats 4000000 in
set_option maxRecDepth 100000 in
theorem c_X13_readStatue {l : Launch} {D : va_G} {ad : Nat → Nat} {cy : Nat → ClassId} {A : Nat → Prop} {g : CG} {q : SE} (M : MM) (a0 : Nat) (k0 : ok g a0 13 0) {Z : MM} (h : f_X13_readStatue M a0 = some Z) : Met l yX13_readStatue wsX13_readStatue ({ frames := 9, cells := 0, slots := 0, locals := 193 }) (va_Pc [.ref (ad a0)] (Wd D ad cy A g q M)) (va_Qv (fun u => u = Z) (Wd D ad cy A g q) A) 0 0 A := by
  refine Met.ofW (cc := cX13_readStatue) (maxL := 9) (ret := none) (by decide) rfl ?_
  intro p e s m args below meth c s₁ B hml hv
  obtain ⟨rfl, hP, hK, hD, hT, hG⟩ := hv
  have hx := B.exec
  have hb := B.bytes
  have hr := B.returns
  have hts := atoms_spec (ws := wsX13_readStatue) B.pre
  have hown : s.vm.findClass RX13 = some m.cls := findClass_of_methodNamed B.named
  have hlocks := B.notSynchronized
  have in12 : ∀ w ∈ u_ws RX12 TX12 48, w ∈ wsX13_readStatue := fun w h => List.mem_cons_of_mem _ (List.mem_append_right _ h)
  have in13 : ∀ w ∈ u_ws RX13 TX13 29, w ∈ wsX13_readStatue := fun w h => List.mem_cons_of_mem _ (List.mem_append_left _ (List.mem_append_right _ h))
  have hS : va_S A s.heap s.heap [] := va_S.rf
  have hl := lv_entry ([.ref (ad a0)]) (n := 9) (Nat.le_of_ble_eq_true rfl)
  rw [lg_entry_eq]
  generalize (lg_sl ([.ref (ad a0)]) ++ List.replicate (9 - (lg_sl ([.ref (ad a0)])).length) Slot.unset).toArray = ls at hl ⊢
  have hl : lv_has ls 9 [(0, .ref (ad a0))] := hl
  unfold f_X13_readStatue at h
  have J1 : ∀ (M1 : MM) (y1_0 : Nat) (y1_1 : Int32) (y1_2 : Int32) (y1_3 : Int32) (w1_0 : Int32) (ky1_0 : ok g y1_0 13 0) (H : Heap) (locs : List Loc), f_X13_readStatue_J143 M1 y1_0 y1_1 y1_2 y1_3 w1_0 = some Z → va_P D vwCl (wd ad cy g M1) H → va_D A (wd ad cy g M1) → WT g M1 → va_S A s.heap H locs → ∀ (ls : Array Slot), lv_has ls 9 [(0, .ref (ad y1_0)), (1, .int y1_1), (2, .int y1_2), (3, .int y1_3)] → W p l e ((headSpec wsX13_readStatue ({ frames := 9, cells := 0, slots := 0, locals := 193 })).room) s m (([.ref (ad a0)] : List Value).toArray) below meth c H locs 0 0 (MQ below (va_Qv (fun u => u = Z) (Wd D ad cy A g q) A) ([.ref (ad a0)]).toArray s 0 0 A) (F0 m 143 ls [.int w1_0]) := by
    intro M1 y1_0 y1_1 y1_2 y1_3 w1_0 ky1_0 H locs h hP hD hT hS ls hl
    unfold f_X13_readStatue_J143 at h
    have J2 : ∀ (M2 : MM) (y2_0 : Nat) (y2_1 : Int32) (y2_2 : Int32) (y2_3 : Int32) (y2_4 : Int32) (ky2_0 : ok g y2_0 13 0) (H : Heap) (locs : List Loc), f_X13_readStatue_J156 M2 y2_0 y2_1 y2_2 y2_3 y2_4 = some Z → va_P D vwCl (wd ad cy g M2) H → va_D A (wd ad cy g M2) → WT g M2 → va_S A s.heap H locs → ∀ (ls : Array Slot), lv_has ls 9 [(0, .ref (ad y2_0)), (1, .int y2_1), (2, .int y2_2), (3, .int y2_3), (4, .int y2_4)] → W p l e ((headSpec wsX13_readStatue ({ frames := 9, cells := 0, slots := 0, locals := 193 })).room) s m (([.ref (ad a0)] : List Value).toArray) below meth c H locs 0 0 (MQ below (va_Qv (fun u => u = Z) (Wd D ad cy A g q) A) ([.ref (ad a0)]).toArray s 0 0 A) (F0 m 156 ls []) := by
      intro M2 y2_0 y2_1 y2_2 y2_3 y2_4 ky2_0 H locs h hP hD hT hS ls hl
      unfold f_X13_readStatue_J156 at h
      have J3 : ∀ (M3 : MM) (y3_0 : Nat) (y3_1 : Int32) (y3_2 : Int32) (y3_3 : Int32) (y3_4 : Int32) (ky3_0 : ok g y3_0 13 0) (H : Heap) (locs : List Loc), f_X13_readStatue_J179 M3 y3_0 y3_1 y3_2 y3_3 y3_4 = some Z → va_P D vwCl (wd ad cy g M3) H → va_D A (wd ad cy g M3) → WT g M3 → va_S A s.heap H locs → ∀ (ls : Array Slot), lv_has ls 9 [(0, .ref (ad y3_0)), (1, .int y3_1), (2, .int y3_2), (3, .int y3_3), (4, .int y3_4)] → W p l e ((headSpec wsX13_readStatue ({ frames := 9, cells := 0, slots := 0, locals := 193 })).room) s m (([.ref (ad a0)] : List Value).toArray) below meth c H locs 0 0 (MQ below (va_Qv (fun u => u = Z) (Wd D ad cy A g q) A) ([.ref (ad a0)]).toArray s 0 0 A) (F0 m 179 ls []) := by
        intro M3 y3_0 y3_1 y3_2 y3_3 y3_4 ky3_0 H locs h hP hD hT hS ls hl
        unfold f_X13_readStatue_J179 at h
        have J4 : ∀ (M4 : MM) (y4_0 : Nat) (y4_1 : Int32) (y4_2 : Int32) (y4_3 : Int32) (y4_4 : Int32) (y4_5 : Int32) (y4_6 : Int32) (y4_7 : Int32) (ky4_0 : ok g y4_0 13 0) (H : Heap) (locs : List Loc), f_X13_readStatue_J309 M4 y4_0 y4_1 y4_2 y4_3 y4_4 y4_5 y4_6 y4_7 = some Z → va_P D vwCl (wd ad cy g M4) H → va_D A (wd ad cy g M4) → WT g M4 → va_S A s.heap H locs → ∀ (ls : Array Slot), lv_has ls 9 [(0, .ref (ad y4_0)), (1, .int y4_1), (2, .int y4_2), (3, .int y4_3), (4, .int y4_4), (5, .int y4_5), (6, .int y4_6), (7, .int y4_7)] → W p l e ((headSpec wsX13_readStatue ({ frames := 9, cells := 0, slots := 0, locals := 193 })).room) s m (([.ref (ad a0)] : List Value).toArray) below meth c H locs 0 0 (MQ below (va_Qv (fun u => u = Z) (Wd D ad cy A g q) A) ([.ref (ad a0)]).toArray s 0 0 A) (F0 m 309 ls []) := by
          intro M4 y4_0 y4_1 y4_2 y4_3 y4_4 y4_5 y4_6 y4_7 ky4_0 H locs h hP hD hT hS ls hl
          unfold f_X13_readStatue_J309 at h
          refine lv_aload_n hx hb dX13_readStatue_309 rfl (lv_at hl 0 rfl) ?_
          refine r_get (T := TX13) (v := .int (gI M4 y4_0 9)) hx hb hts in13 hown hK hP ky4_0 (by decide) rfl 9 (by decide) (hts (.fieldLink RX13 58 "StoneWalkModel" "sort" "I") (List.mem_of_getElem? (i := 2) (by decide +kernel))) rfl (t := 0) rfl rfl dX13_readStatue_310 ?_
          refine lv_iconst (v := 5) hx hb dX13_readStatue_313 rfl ?_
          refine lv_icmp_ne (tgt := 318) hx hb dX13_readStatue_314 rfl (fun c5 => ?_) (fun c5 => ?_)
          · replace h := ite_f c5 h
            refine lv_aload_n hx hb dX13_readStatue_318 rfl (lv_at hl 0 rfl) ?_
            rcases hN6 : gR M4 y4_0 4 with _ | b6
            · replace h := oc_n hN6 h
              refine r_get (T := TX13) (v := .null) hx hb hts in13 hown hK hP ky4_0 (by decide) rfl 4 (by decide) (hts (.fieldLink RX13 150 "StoneWalkModel" "read" "LStoneWalkModel$Island;") (List.mem_of_getElem? (i := 1) (by decide +kernel))) rfl (t := 2) rfl (by show va_rf _ = _; rw [hN6]; rfl) dX13_readStatue_319 ?_
              exact absurd h (by simp)
            · replace h := oc_s hN6 h
              have kb6 := hT.f ky4_0 (k := 4) (t := 12) (n := 0) rfl hN6
              refine r_get (T := TX13) (v := .ref (ad b6)) hx hb hts in13 hown hK hP ky4_0 (by decide) rfl 4 (by decide) (hts (.fieldLink RX13 150 "StoneWalkModel" "read" "LStoneWalkModel$Island;") (List.mem_of_getElem? (i := 1) (by decide +kernel))) rfl (t := 2) rfl (by show va_rf _ = _; rw [hN6]; rfl) dX13_readStatue_319 ?_
              refine r_getN (T := TX12) (v := .int (gI M4 b6 2)) hx hb hts in12 hown hK hP kb6 (by decide) rfl 2 (by decide) (hG.2.2.1 ("StoneWalkModel", 191, "StoneWalkModel$Island", "statues", "I", "StoneWalkModel") (List.mem_of_getElem? (i := 7) rfl)) rfl (t := 0) rfl rfl dX13_readStatue_322 ?_
              refine lv_istore (lv' := [(8, .int (gI M4 b6 2)), (0, .ref (ad y4_0)), (1, .int y4_1), (2, .int y4_2), (3, .int y4_3), (4, .int y4_4), (5, .int y4_5), (6, .int y4_6), (7, .int y4_7)]) hx hb dX13_readStatue_325 hl (by decide) rfl (fun ls hl => ?_)
              refine lv_aload_n hx hb dX13_readStatue_327 rfl (lv_at hl 1 rfl) ?_
              rcases hN7 : gR M4 y4_0 4 with _ | b7
              · replace h := oc_n hN7 h
                refine r_get (T := TX13) (v := .null) hx hb hts in13 hown hK hP ky4_0 (by decide) rfl 4 (by decide) (hts (.fieldLink RX13 150 "StoneWalkModel" "read" "LStoneWalkModel$Island;") (List.mem_of_getElem? (i := 1) (by decide +kernel))) rfl (t := 2) rfl (by show va_rf _ = _; rw [hN7]; rfl) dX13_readStatue_328 ?_
                exact absurd h (by simp)
              · replace h := oc_s hN7 h
                have kb7 := hT.f ky4_0 (k := 4) (t := 12) (n := 0) rfl hN7
                refine r_get (T := TX13) (v := .ref (ad b7)) hx hb hts in13 hown hK hP ky4_0 (by decide) rfl 4 (by decide) (hts (.fieldLink RX13 150 "StoneWalkModel" "read" "LStoneWalkModel$Island;") (List.mem_of_getElem? (i := 1) (by decide +kernel))) rfl (t := 2) rfl (by show va_rf _ = _; rw [hN7]; rfl) dX13_readStatue_328 ?_
                rcases hN8 : gR M4 b7 15 with _ | b8
                · exact absurd (oc_n hN8 h) (by simp)
                replace h := oc_s hN8 h
                have kb8 := hT.f kb7 (k := 15) (t := 15) (n := 10) rfl hN8
                refine r_getN (T := TX12) (v := .ref (ad b8)) hx hb hts in12 hown hK hP kb7 (by decide) rfl 15 (by decide) (hG.2.2.1 ("StoneWalkModel", 301, "StoneWalkModel$Island", "tons", "[I", "StoneWalkModel") (List.mem_of_getElem? (i := 15) rfl)) rfl (t := 2) rfl (by show va_rf _ = _; rw [hN8]; rfl) dX13_readStatue_331 ?_
                refine lv_iload hx hb dX13_readStatue_334 (lv_at hl 0 rfl) ?_
                refine lv_iload_n hx hb dX13_readStatue_336 rfl (lv_at hl 2 rfl) ?_
                obtain ⟨hn9, h⟩ := chk_some h
                refine r_iast hx hb hK hP hD hT hS kb8 hn9 dX13_readStatue_337 (fun H locs hP hD hT hS => ?_)
                generalize pI M4 b8 (ix (gI M4 b6 2)) y4_1 = Mg1 at h hP hD hT ⊢
                refine lv_aload_n hx hb dX13_readStatue_338 rfl (lv_at hl 1 rfl) ?_
                rcases hN10 : gR Mg1 y4_0 4 with _ | b10
                · replace h := oc_n hN10 h
                  refine r_get (T := TX13) (v := .null) hx hb hts in13 hown hK hP ky4_0 (by decide) rfl 4 (by decide) (hts (.fieldLink RX13 150 "StoneWalkModel" "read" "LStoneWalkModel$Island;") (List.mem_of_getElem? (i := 1) (by decide +kernel))) rfl (t := 2) rfl (by show va_rf _ = _; rw [hN10]; rfl) dX13_readStatue_339 ?_
                  exact absurd h (by simp)
                · replace h := oc_s hN10 h
                  have kb10 := hT.f ky4_0 (k := 4) (t := 12) (n := 0) rfl hN10
                  refine r_get (T := TX13) (v := .ref (ad b10)) hx hb hts in13 hown hK hP ky4_0 (by decide) rfl 4 (by decide) (hts (.fieldLink RX13 150 "StoneWalkModel" "read" "LStoneWalkModel$Island;") (List.mem_of_getElem? (i := 1) (by decide +kernel))) rfl (t := 2) rfl (by show va_rf _ = _; rw [hN10]; rfl) dX13_readStatue_339 ?_
                  rcases hN11 : gR Mg1 b10 16 with _ | b11
                  · exact absurd (oc_n hN11 h) (by simp)
                  replace h := oc_s hN11 h
                  have kb11 := hT.f kb10 (k := 16) (t := 15) (n := 10) rfl hN11
                  refine r_getN (T := TX12) (v := .ref (ad b11)) hx hb hts in12 hown hK hP kb10 (by decide) rfl 16 (by decide) (hG.2.2.1 ("StoneWalkModel", 303, "StoneWalkModel$Island", "lean", "[I", "StoneWalkModel") (List.mem_of_getElem? (i := 16) rfl)) rfl (t := 2) rfl (by show va_rf _ = _; rw [hN11]; rfl) dX13_readStatue_342 ?_
                  refine lv_iload hx hb dX13_readStatue_345 (lv_at hl 0 rfl) ?_
                  refine lv_iload_n hx hb dX13_readStatue_347 rfl (lv_at hl 3 rfl) ?_
                  obtain ⟨hn12, h⟩ := chk_some h
                  refine r_iast hx hb hK hP hD hT hS kb11 hn12 dX13_readStatue_348 (fun H locs hP hD hT hS => ?_)
                  generalize pI Mg1 b11 (ix (gI M4 b6 2)) y4_2 = Mg2 at h hP hD hT ⊢
                  refine lv_aload_n hx hb dX13_readStatue_349 rfl (lv_at hl 1 rfl) ?_
                  rcases hN13 : gR Mg2 y4_0 4 with _ | b13
                  · replace h := oc_n hN13 h
                    refine r_get (T := TX13) (v := .null) hx hb hts in13 hown hK hP ky4_0 (by decide) rfl 4 (by decide) (hts (.fieldLink RX13 150 "StoneWalkModel" "read" "LStoneWalkModel$Island;") (List.mem_of_getElem? (i := 1) (by decide +kernel))) rfl (t := 2) rfl (by show va_rf _ = _; rw [hN13]; rfl) dX13_readStatue_350 ?_
                    exact absurd h (by simp)
                  · replace h := oc_s hN13 h
                    have kb13 := hT.f ky4_0 (k := 4) (t := 12) (n := 0) rfl hN13
                    refine r_get (T := TX13) (v := .ref (ad b13)) hx hb hts in13 hown hK hP ky4_0 (by decide) rfl 4 (by decide) (hts (.fieldLink RX13 150 "StoneWalkModel" "read" "LStoneWalkModel$Island;") (List.mem_of_getElem? (i := 1) (by decide +kernel))) rfl (t := 2) rfl (by show va_rf _ = _; rw [hN13]; rfl) dX13_readStatue_350 ?_
                    rcases hN14 : gR Mg2 b13 17 with _ | b14
                    · exact absurd (oc_n hN14 h) (by simp)
                    replace h := oc_s hN14 h
                    have kb14 := hT.f kb13 (k := 17) (t := 15) (n := 10) rfl hN14
                    refine r_getN (T := TX12) (v := .ref (ad b14)) hx hb hts in12 hown hK hP kb13 (by decide) rfl 17 (by decide) (hG.2.2.1 ("StoneWalkModel", 305, "StoneWalkModel$Island", "edge", "[I", "StoneWalkModel") (List.mem_of_getElem? (i := 17) rfl)) rfl (t := 2) rfl (by show va_rf _ = _; rw [hN14]; rfl) dX13_readStatue_353 ?_
                    refine lv_iload hx hb dX13_readStatue_356 (lv_at hl 0 rfl) ?_
                    refine lv_iload_n hx hb dX13_readStatue_358 rfl (lv_at hl 4 rfl) ?_
                    obtain ⟨hn15, h⟩ := chk_some h
                    refine r_iast hx hb hK hP hD hT hS kb14 hn15 dX13_readStatue_359 (fun H locs hP hD hT hS => ?_)
                    generalize pI Mg2 b14 (ix (gI M4 b6 2)) y4_3 = Mg3 at h hP hD hT ⊢
                    refine lv_aload_n hx hb dX13_readStatue_360 rfl (lv_at hl 1 rfl) ?_
                    rcases hN16 : gR Mg3 y4_0 4 with _ | b16
                    · replace h := oc_n hN16 h
                      refine r_get (T := TX13) (v := .null) hx hb hts in13 hown hK hP ky4_0 (by decide) rfl 4 (by decide) (hts (.fieldLink RX13 150 "StoneWalkModel" "read" "LStoneWalkModel$Island;") (List.mem_of_getElem? (i := 1) (by decide +kernel))) rfl (t := 2) rfl (by show va_rf _ = _; rw [hN16]; rfl) dX13_readStatue_361 ?_
                      exact absurd h (by simp)
                    · replace h := oc_s hN16 h
                      have kb16 := hT.f ky4_0 (k := 4) (t := 12) (n := 0) rfl hN16
                      refine r_get (T := TX13) (v := .ref (ad b16)) hx hb hts in13 hown hK hP ky4_0 (by decide) rfl 4 (by decide) (hts (.fieldLink RX13 150 "StoneWalkModel" "read" "LStoneWalkModel$Island;") (List.mem_of_getElem? (i := 1) (by decide +kernel))) rfl (t := 2) rfl (by show va_rf _ = _; rw [hN16]; rfl) dX13_readStatue_361 ?_
                      rcases hN17 : gR Mg3 b16 18 with _ | b17
                      · exact absurd (oc_n hN17 h) (by simp)
                      replace h := oc_s hN17 h
                      have kb17 := hT.f kb16 (k := 18) (t := 15) (n := 10) rfl hN17
                      refine r_getN (T := TX12) (v := .ref (ad b17)) hx hb hts in12 hown hK hP kb16 (by decide) rfl 18 (by decide) (hG.2.2.1 ("StoneWalkModel", 307, "StoneWalkModel$Island", "sort", "[I", "StoneWalkModel") (List.mem_of_getElem? (i := 18) rfl)) rfl (t := 2) rfl (by show va_rf _ = _; rw [hN17]; rfl) dX13_readStatue_364 ?_
                      refine lv_iload hx hb dX13_readStatue_367 (lv_at hl 0 rfl) ?_
                      refine lv_iload hx hb dX13_readStatue_369 (lv_at hl 5 rfl) ?_
                      obtain ⟨hn18, h⟩ := chk_some h
                      refine r_iast hx hb hK hP hD hT hS kb17 hn18 dX13_readStatue_371 (fun H locs hP hD hT hS => ?_)
                      generalize pI Mg3 b17 (ix (gI M4 b6 2)) y4_4 = Mg4 at h hP hD hT ⊢
                      refine lv_aload_n hx hb dX13_readStatue_372 rfl (lv_at hl 1 rfl) ?_
                      rcases hN19 : gR Mg4 y4_0 4 with _ | b19
                      · replace h := oc_n hN19 h
                        refine r_get (T := TX13) (v := .null) hx hb hts in13 hown hK hP ky4_0 (by decide) rfl 4 (by decide) (hts (.fieldLink RX13 150 "StoneWalkModel" "read" "LStoneWalkModel$Island;") (List.mem_of_getElem? (i := 1) (by decide +kernel))) rfl (t := 2) rfl (by show va_rf _ = _; rw [hN19]; rfl) dX13_readStatue_373 ?_
                        exact absurd h (by simp)
                      · replace h := oc_s hN19 h
                        have kb19 := hT.f ky4_0 (k := 4) (t := 12) (n := 0) rfl hN19
                        refine r_get (T := TX13) (v := .ref (ad b19)) hx hb hts in13 hown hK hP ky4_0 (by decide) rfl 4 (by decide) (hts (.fieldLink RX13 150 "StoneWalkModel" "read" "LStoneWalkModel$Island;") (List.mem_of_getElem? (i := 1) (by decide +kernel))) rfl (t := 2) rfl (by show va_rf _ = _; rw [hN19]; rfl) dX13_readStatue_373 ?_
                        rcases hN20 : gR Mg4 b19 19 with _ | b20
                        · exact absurd (oc_n hN20 h) (by simp)
                        replace h := oc_s hN20 h
                        have kb20 := hT.f kb19 (k := 19) (t := 15) (n := 10) rfl hN20
                        refine r_getN (T := TX12) (v := .ref (ad b20)) hx hb hts in12 hown hK hP kb19 (by decide) rfl 19 (by decide) (hG.2.2.1 ("StoneWalkModel", 309, "StoneWalkModel$Island", "lie", "[I", "StoneWalkModel") (List.mem_of_getElem? (i := 19) rfl)) rfl (t := 2) rfl (by show va_rf _ = _; rw [hN20]; rfl) dX13_readStatue_376 ?_
                        refine lv_iload hx hb dX13_readStatue_379 (lv_at hl 0 rfl) ?_
                        refine lv_iload hx hb dX13_readStatue_381 (lv_at hl 6 rfl) ?_
                        obtain ⟨hn21, h⟩ := chk_some h
                        refine r_iast hx hb hK hP hD hT hS kb20 hn21 dX13_readStatue_383 (fun H locs hP hD hT hS => ?_)
                        generalize pI Mg4 b20 (ix (gI M4 b6 2)) y4_5 = Mg5 at h hP hD hT ⊢
                        refine lv_aload_n hx hb dX13_readStatue_384 rfl (lv_at hl 1 rfl) ?_
                        rcases hN22 : gR Mg5 y4_0 4 with _ | b22
                        · replace h := oc_n hN22 h
                          refine r_get (T := TX13) (v := .null) hx hb hts in13 hown hK hP ky4_0 (by decide) rfl 4 (by decide) (hts (.fieldLink RX13 150 "StoneWalkModel" "read" "LStoneWalkModel$Island;") (List.mem_of_getElem? (i := 1) (by decide +kernel))) rfl (t := 2) rfl (by show va_rf _ = _; rw [hN22]; rfl) dX13_readStatue_385 ?_
                          exact absurd h (by simp)
                        · replace h := oc_s hN22 h
                          have kb22 := hT.f ky4_0 (k := 4) (t := 12) (n := 0) rfl hN22
                          refine r_get (T := TX13) (v := .ref (ad b22)) hx hb hts in13 hown hK hP ky4_0 (by decide) rfl 4 (by decide) (hts (.fieldLink RX13 150 "StoneWalkModel" "read" "LStoneWalkModel$Island;") (List.mem_of_getElem? (i := 1) (by decide +kernel))) rfl (t := 2) rfl (by show va_rf _ = _; rw [hN22]; rfl) dX13_readStatue_385 ?_
                          rcases hN23 : gR Mg5 b22 20 with _ | b23
                          · exact absurd (oc_n hN23 h) (by simp)
                          replace h := oc_s hN23 h
                          have kb23 := hT.f kb22 (k := 20) (t := 15) (n := 10) rfl hN23
                          refine r_getN (T := TX12) (v := .ref (ad b23)) hx hb hts in12 hown hK hP kb22 (by decide) rfl 20 (by decide) (hG.2.2.1 ("StoneWalkModel", 312, "StoneWalkModel$Island", "on", "[I", "StoneWalkModel") (List.mem_of_getElem? (i := 20) rfl)) rfl (t := 2) rfl (by show va_rf _ = _; rw [hN23]; rfl) dX13_readStatue_388 ?_
                          refine lv_iload hx hb dX13_readStatue_391 (lv_at hl 0 rfl) ?_
                          refine lv_iload hx hb dX13_readStatue_393 (lv_at hl 7 rfl) ?_
                          obtain ⟨hn24, h⟩ := chk_some h
                          refine r_iast hx hb hK hP hD hT hS kb23 hn24 dX13_readStatue_395 (fun H locs hP hD hT hS => ?_)
                          generalize pI Mg5 b23 (ix (gI M4 b6 2)) y4_6 = Mg6 at h hP hD hT ⊢
                          refine lv_aload_n hx hb dX13_readStatue_396 rfl (lv_at hl 1 rfl) ?_
                          rcases hN25 : gR Mg6 y4_0 4 with _ | b25
                          · replace h := oc_n hN25 h
                            refine r_get (T := TX13) (v := .null) hx hb hts in13 hown hK hP ky4_0 (by decide) rfl 4 (by decide) (hts (.fieldLink RX13 150 "StoneWalkModel" "read" "LStoneWalkModel$Island;") (List.mem_of_getElem? (i := 1) (by decide +kernel))) rfl (t := 2) rfl (by show va_rf _ = _; rw [hN25]; rfl) dX13_readStatue_397 ?_
                            exact absurd h (by simp)
                          · replace h := oc_s hN25 h
                            have kb25 := hT.f ky4_0 (k := 4) (t := 12) (n := 0) rfl hN25
                            refine r_get (T := TX13) (v := .ref (ad b25)) hx hb hts in13 hown hK hP ky4_0 (by decide) rfl 4 (by decide) (hts (.fieldLink RX13 150 "StoneWalkModel" "read" "LStoneWalkModel$Island;") (List.mem_of_getElem? (i := 1) (by decide +kernel))) rfl (t := 2) rfl (by show va_rf _ = _; rw [hN25]; rfl) dX13_readStatue_397 ?_
                            rcases hN26 : gR Mg6 b25 21 with _ | b26
                            · exact absurd (oc_n hN26 h) (by simp)
                            replace h := oc_s hN26 h
                            have kb26 := hT.f kb25 (k := 21) (t := 15) (n := 10) rfl hN26
                            refine r_getN (T := TX12) (v := .ref (ad b26)) hx hb hts in12 hown hK hP kb25 (by decide) rfl 21 (by decide) (hG.2.2.1 ("StoneWalkModel", 314, "StoneWalkModel$Island", "there", "[I", "StoneWalkModel") (List.mem_of_getElem? (i := 21) rfl)) rfl (t := 2) rfl (by show va_rf _ = _; rw [hN26]; rfl) dX13_readStatue_400 ?_
                            refine lv_iload hx hb dX13_readStatue_403 (lv_at hl 0 rfl) ?_
                            refine lv_iload hx hb dX13_readStatue_405 (lv_at hl 8 rfl) ?_
                            obtain ⟨hn27, h⟩ := chk_some h
                            refine r_iast hx hb hK hP hD hT hS kb26 hn27 dX13_readStatue_407 (fun H locs hP hD hT hS => ?_)
                            generalize pI Mg6 b26 (ix (gI M4 b6 2)) y4_7 = Mg7 at h hP hD hT ⊢
                            refine lv_aload_n hx hb dX13_readStatue_408 rfl (lv_at hl 1 rfl) ?_
                            rcases hN28 : gR Mg7 y4_0 4 with _ | b28
                            · replace h := oc_n hN28 h
                              refine r_get (T := TX13) (v := .null) hx hb hts in13 hown hK hP ky4_0 (by decide) rfl 4 (by decide) (hts (.fieldLink RX13 150 "StoneWalkModel" "read" "LStoneWalkModel$Island;") (List.mem_of_getElem? (i := 1) (by decide +kernel))) rfl (t := 2) rfl (by show va_rf _ = _; rw [hN28]; rfl) dX13_readStatue_409 ?_
                              refine lv_dup hx hb dX13_readStatue_412 rfl ?_
                              exact absurd h (by simp)
                            · replace h := oc_s hN28 h
                              have kb28 := hT.f ky4_0 (k := 4) (t := 12) (n := 0) rfl hN28
                              refine r_get (T := TX13) (v := .ref (ad b28)) hx hb hts in13 hown hK hP ky4_0 (by decide) rfl 4 (by decide) (hts (.fieldLink RX13 150 "StoneWalkModel" "read" "LStoneWalkModel$Island;") (List.mem_of_getElem? (i := 1) (by decide +kernel))) rfl (t := 2) rfl (by show va_rf _ = _; rw [hN28]; rfl) dX13_readStatue_409 ?_
                              refine lv_dup hx hb dX13_readStatue_412 rfl ?_
                              refine r_getN (T := TX12) (v := .int (gI Mg7 b28 3)) hx hb hts in12 hown hK hP kb28 (by decide) rfl 3 (by decide) (hG.2.2.1 ("StoneWalkModel", 286, "StoneWalkModel$Island", "lying", "I", "StoneWalkModel") (List.mem_of_getElem? (i := 14) rfl)) rfl (t := 0) rfl rfl dX13_readStatue_413 ?_
                              refine lv_iload hx hb dX13_readStatue_416 (lv_at hl 5 rfl) ?_
                              refine lv_iconst (v := 5) hx hb dX13_readStatue_418 rfl ?_
                              refine lv_icmp_ne (tgt := 426) hx hb dX13_readStatue_419 rfl (fun c29 => ?_) (fun c29 => ?_)
                              · replace h := ite_f c29 h
                                refine lv_iconst (v := 0) hx hb dX13_readStatue_426 rfl ?_
                                refine lv_iadd hx hb dX13_readStatue_427 ?_
                                refine r_putIN (T := TX12) (ty := .int) (v := (gI Mg7 b28 3) + 0) hx hb hts in12 tyX12 tyX12_ok nmX12 hown hK hP hD hT hS kb28 (by decide) rfl 3 (by decide) (hG.2.2.1 ("StoneWalkModel", 286, "StoneWalkModel$Island", "lying", "I", "StoneWalkModel") (List.mem_of_getElem? (i := 14) rfl)) rfl rfl (tyX12_ok 3 (by decide)) rfl rfl rfl dX13_readStatue_428 (fun H locs hP hD hT hS => ?_)
                                generalize pI Mg7 b28 3 ((gI Mg7 b28 3) + 0) = Mg8 at h hP hD hT ⊢
                                refine lv_aload_n hx hb dX13_readStatue_431 rfl (lv_at hl 1 rfl) ?_
                                rcases hN30 : gR Mg8 y4_0 4 with _ | b30
                                · replace h := oc_n hN30 h
                                  refine r_get (T := TX13) (v := .null) hx hb hts in13 hown hK hP ky4_0 (by decide) rfl 4 (by decide) (hts (.fieldLink RX13 150 "StoneWalkModel" "read" "LStoneWalkModel$Island;") (List.mem_of_getElem? (i := 1) (by decide +kernel))) rfl (t := 2) rfl (by show va_rf _ = _; rw [hN30]; rfl) dX13_readStatue_432 ?_
                                  refine lv_dup hx hb dX13_readStatue_435 rfl ?_
                                  exact absurd h (by simp)
                                · replace h := oc_s hN30 h
                                  have kb30 := hT.f ky4_0 (k := 4) (t := 12) (n := 0) rfl hN30
                                  refine r_get (T := TX13) (v := .ref (ad b30)) hx hb hts in13 hown hK hP ky4_0 (by decide) rfl 4 (by decide) (hts (.fieldLink RX13 150 "StoneWalkModel" "read" "LStoneWalkModel$Island;") (List.mem_of_getElem? (i := 1) (by decide +kernel))) rfl (t := 2) rfl (by show va_rf _ = _; rw [hN30]; rfl) dX13_readStatue_432 ?_
                                  refine lv_dup hx hb dX13_readStatue_435 rfl ?_
                                  refine r_getN (T := TX12) (v := .int (gI Mg8 b30 2)) hx hb hts in12 hown hK hP kb30 (by decide) rfl 2 (by decide) (hG.2.2.1 ("StoneWalkModel", 191, "StoneWalkModel$Island", "statues", "I", "StoneWalkModel") (List.mem_of_getElem? (i := 7) rfl)) rfl (t := 0) rfl rfl dX13_readStatue_436 ?_
                                  refine lv_iconst (v := 1) hx hb dX13_readStatue_439 rfl ?_
                                  refine lv_iadd hx hb dX13_readStatue_440 ?_
                                  refine r_putIN (T := TX12) (ty := .int) (v := (gI Mg8 b30 2) + 1) hx hb hts in12 tyX12 tyX12_ok nmX12 hown hK hP hD hT hS kb30 (by decide) rfl 2 (by decide) (hG.2.2.1 ("StoneWalkModel", 191, "StoneWalkModel$Island", "statues", "I", "StoneWalkModel") (List.mem_of_getElem? (i := 7) rfl)) rfl rfl (tyX12_ok 2 (by decide)) rfl rfl rfl dX13_readStatue_441 (fun H locs hP hD hT hS => ?_)
                                  generalize pI Mg8 b30 2 ((gI Mg8 b30 2) + 1) = Mg9 at h hP hD hT ⊢
                                  exact r_vret hx hb hr hlocks hP hK hD hT hG hS (Option.some.inj h) dX13_readStatue_444
                              · replace h := ite_t c29 h
                                refine lv_iconst (v := 1) hx hb dX13_readStatue_422 rfl ?_
                                refine lv_goto (tgt := 427) hx hb dX13_readStatue_423 rfl ?_
                                refine lv_iadd hx hb dX13_readStatue_427 ?_
                                refine r_putIN (T := TX12) (ty := .int) (v := (gI Mg7 b28 3) + 1) hx hb hts in12 tyX12 tyX12_ok nmX12 hown hK hP hD hT hS kb28 (by decide) rfl 3 (by decide) (hG.2.2.1 ("StoneWalkModel", 286, "StoneWalkModel$Island", "lying", "I", "StoneWalkModel") (List.mem_of_getElem? (i := 14) rfl)) rfl rfl (tyX12_ok 3 (by decide)) rfl rfl rfl dX13_readStatue_428 (fun H locs hP hD hT hS => ?_)
                                generalize pI Mg7 b28 3 ((gI Mg7 b28 3) + 1) = Mg10 at h hP hD hT ⊢
                                refine lv_aload_n hx hb dX13_readStatue_431 rfl (lv_at hl 1 rfl) ?_
                                rcases hN31 : gR Mg10 y4_0 4 with _ | b31
                                · replace h := oc_n hN31 h
                                  refine r_get (T := TX13) (v := .null) hx hb hts in13 hown hK hP ky4_0 (by decide) rfl 4 (by decide) (hts (.fieldLink RX13 150 "StoneWalkModel" "read" "LStoneWalkModel$Island;") (List.mem_of_getElem? (i := 1) (by decide +kernel))) rfl (t := 2) rfl (by show va_rf _ = _; rw [hN31]; rfl) dX13_readStatue_432 ?_
                                  refine lv_dup hx hb dX13_readStatue_435 rfl ?_
                                  exact absurd h (by simp)
                                · replace h := oc_s hN31 h
                                  have kb31 := hT.f ky4_0 (k := 4) (t := 12) (n := 0) rfl hN31
                                  refine r_get (T := TX13) (v := .ref (ad b31)) hx hb hts in13 hown hK hP ky4_0 (by decide) rfl 4 (by decide) (hts (.fieldLink RX13 150 "StoneWalkModel" "read" "LStoneWalkModel$Island;") (List.mem_of_getElem? (i := 1) (by decide +kernel))) rfl (t := 2) rfl (by show va_rf _ = _; rw [hN31]; rfl) dX13_readStatue_432 ?_
                                  refine lv_dup hx hb dX13_readStatue_435 rfl ?_
                                  refine r_getN (T := TX12) (v := .int (gI Mg10 b31 2)) hx hb hts in12 hown hK hP kb31 (by decide) rfl 2 (by decide) (hG.2.2.1 ("StoneWalkModel", 191, "StoneWalkModel$Island", "statues", "I", "StoneWalkModel") (List.mem_of_getElem? (i := 7) rfl)) rfl (t := 0) rfl rfl dX13_readStatue_436 ?_
                                  refine lv_iconst (v := 1) hx hb dX13_readStatue_439 rfl ?_
                                  refine lv_iadd hx hb dX13_readStatue_440 ?_
                                  refine r_putIN (T := TX12) (ty := .int) (v := (gI Mg10 b31 2) + 1) hx hb hts in12 tyX12 tyX12_ok nmX12 hown hK hP hD hT hS kb31 (by decide) rfl 2 (by decide) (hG.2.2.1 ("StoneWalkModel", 191, "StoneWalkModel$Island", "statues", "I", "StoneWalkModel") (List.mem_of_getElem? (i := 7) rfl)) rfl rfl (tyX12_ok 2 (by decide)) rfl rfl rfl dX13_readStatue_441 (fun H locs hP hD hT hS => ?_)
                                  generalize pI Mg10 b31 2 ((gI Mg10 b31 2) + 1) = Mg11 at h hP hD hT ⊢
                                  exact r_vret hx hb hr hlocks hP hK hD hT hG hS (Option.some.inj h) dX13_readStatue_444
          · replace h := ite_t c5 h
            exact r_vret hx hb hr hlocks hP hK hD hT hG hS (Option.some.inj h) dX13_readStatue_317
        have J32 : ∀ (M32 : MM) (y32_0 : Nat) (y32_1 : Int32) (y32_2 : Int32) (y32_3 : Int32) (y32_4 : Int32) (w32_0 : Int32) (ky32_0 : ok g y32_0 13 0) (H : Heap) (locs : List Loc), f_X13_readStatue_J244 M32 y32_0 y32_1 y32_2 y32_3 y32_4 w32_0 = some Z → va_P D vwCl (wd ad cy g M32) H → va_D A (wd ad cy g M32) → WT g M32 → va_S A s.heap H locs → ∀ (ls : Array Slot), lv_has ls 9 [(0, .ref (ad y32_0)), (1, .int y32_1), (2, .int y32_2), (3, .int y32_3), (4, .int y32_4)] → W p l e ((headSpec wsX13_readStatue ({ frames := 9, cells := 0, slots := 0, locals := 193 })).room) s m (([.ref (ad a0)] : List Value).toArray) below meth c H locs 0 0 (MQ below (va_Qv (fun u => u = Z) (Wd D ad cy A g q) A) ([.ref (ad a0)]).toArray s 0 0 A) (F0 m 244 ls [.int w32_0]) := by
          intro M32 y32_0 y32_1 y32_2 y32_3 y32_4 w32_0 ky32_0 H locs h hP hD hT hS ls hl
          unfold f_X13_readStatue_J244 at h
          have J33 : ∀ (M33 : MM) (y33_0 : Nat) (y33_1 : Int32) (y33_2 : Int32) (y33_3 : Int32) (y33_4 : Int32) (y33_5 : Int32) (ky33_0 : ok g y33_0 13 0) (H : Heap) (locs : List Loc), f_X13_readStatue_J257 M33 y33_0 y33_1 y33_2 y33_3 y33_4 y33_5 = some Z → va_P D vwCl (wd ad cy g M33) H → va_D A (wd ad cy g M33) → WT g M33 → va_S A s.heap H locs → ∀ (ls : Array Slot), lv_has ls 9 [(0, .ref (ad y33_0)), (1, .int y33_1), (2, .int y33_2), (3, .int y33_3), (4, .int y33_4), (5, .int y33_5)] → W p l e ((headSpec wsX13_readStatue ({ frames := 9, cells := 0, slots := 0, locals := 193 })).room) s m (([.ref (ad a0)] : List Value).toArray) below meth c H locs 0 0 (MQ below (va_Qv (fun u => u = Z) (Wd D ad cy A g q) A) ([.ref (ad a0)]).toArray s 0 0 A) (F0 m 257 ls []) := by
            intro M33 y33_0 y33_1 y33_2 y33_3 y33_4 y33_5 ky33_0 H locs h hP hD hT hS ls hl
            unfold f_X13_readStatue_J257 at h
            have J34 : ∀ (M34 : MM) (y34_0 : Nat) (y34_1 : Int32) (y34_2 : Int32) (y34_3 : Int32) (y34_4 : Int32) (y34_5 : Int32) (y34_6 : Int32) (w34_0 : Int32) (w34_1 : Int32) (w34_2 : Nat) (w34_3 : Nat) (ky34_0 : ok g y34_0 13 0) (kw34_2 : w34_2 < nS) (kw34_3 : ok g w34_3 13 0) (H : Heap) (locs : List Loc), f_X13_readStatue_J304 M34 y34_0 y34_1 y34_2 y34_3 y34_4 y34_5 y34_6 w34_0 w34_1 w34_2 w34_3 = some Z → va_P D vwCl (wd ad cy g M34) H → va_D A (wd ad cy g M34) → WT g M34 → va_S A s.heap H locs → ∀ (ls : Array Slot), lv_has ls 9 [(0, .ref (ad y34_0)), (1, .int y34_1), (2, .int y34_2), (3, .int y34_3), (4, .int y34_4), (5, .int y34_5), (6, .int y34_6)] → W p l e ((headSpec wsX13_readStatue ({ frames := 9, cells := 0, slots := 0, locals := 193 })).room) s m (([.ref (ad a0)] : List Value).toArray) below meth c H locs 0 0 (MQ below (va_Qv (fun u => u = Z) (Wd D ad cy A g q) A) ([.ref (ad a0)]).toArray s 0 0 A) (F0 m 304 ls [.int w34_0, .int w34_1, .ref (q.2.1 w34_2), .ref (ad w34_3)]) := by
              intro M34 y34_0 y34_1 y34_2 y34_3 y34_4 y34_5 y34_6 w34_0 w34_1 w34_2 w34_3 ky34_0 kw34_2 kw34_3 H locs h hP hD hT hS ls hl
              unfold f_X13_readStatue_J304 at h
              obtain ⟨z35, h35, h⟩ := ob_some h
              refine k_i (va_runV (As := [.ref (q.2.1 w34_2), .int w34_1, .int w34_0]) (rest := []) ⟨hx, hb, hml, hown, hts⟩ (c_X13_readPart (l := l) M34 w34_3 w34_2 w34_1 w34_0 kw34_3 kw34_2 h35) (cwV 3 hts gX13_readStatue_X13_readPart rfl rfl rfl hdV_X13_readPart ⟨Nat.le_of_ble_eq_true rfl, Nat.le_of_ble_eq_true rfl⟩) (pV (T := TX13) hP hK hD hT hG hS kw34_3 (by decide) rfl) rfl rfl hl.1 rfl (lv_room (Nat.le_of_ble_eq_true rfl)) dX13_readStatue_304 ⟨Nat.zero_le _, Nat.zero_le _⟩) hS (fun H locs hP hD hT hS => ?_)
              refine lv_istore (lv' := [(7, .int z35.1), (0, .ref (ad y34_0)), (1, .int y34_1), (2, .int y34_2), (3, .int y34_3), (4, .int y34_4), (5, .int y34_5), (6, .int y34_6)]) hx hb dX13_readStatue_307 hl (by decide) rfl (fun ls hl => ?_)
              exact J4 z35.2 y34_0 y34_1 y34_2 y34_3 y34_4 y34_5 y34_6 z35.1 ky34_0 _ _ h hP hD hT hS ls (lv_sub hl [1, 2, 3, 4, 5, 6, 7, 0] rfl)
            refine lv_aload_n hx hb dX13_readStatue_257 rfl (lv_at hl 0 rfl) ?_
            obtain ⟨z36, h36, h⟩ := ob_some h
            refine k_v (va_runV (As := []) (rest := []) ⟨hx, hb, hml, hown, hts⟩ (c_X13_goesOn (l := l) M33 y33_0 ky33_0 h36) (cwV 0 hts gX13_readStatue_X13_goesOn rfl rfl rfl hdV_X13_goesOn ⟨Nat.le_of_ble_eq_true rfl, Nat.le_of_ble_eq_true rfl⟩) (pV (T := TX13) hP hK hD hT hG hS ky33_0 (by decide) rfl) rfl rfl hl.1 rfl (lv_room (Nat.le_of_ble_eq_true rfl)) dX13_readStatue_258 ⟨Nat.zero_le _, Nat.zero_le _⟩) hS (fun H locs hP hD hT hS => ?_)
            refine lv_aload_n hx hb dX13_readStatue_261 rfl (lv_at hl 0 rfl) ?_
            refine r_ldcSw (tx := "on") (i := 13) hx hb hG hown (by decide +kernel) dX13_readStatue_262 ?_
            obtain ⟨z37, h37, h⟩ := ob_some h
            refine k_v (va_runV (As := [.ref (q.2.1 13)]) (rest := []) ⟨hx, hb, hml, hown, hts⟩ (c_X13_needs (l := l) z36 y33_0 13 ky33_0 (by decide) h37) (cwV 1 hts gX13_readStatue_X13_needs rfl rfl rfl hdV_X13_needs ⟨Nat.le_of_ble_eq_true rfl, Nat.le_of_ble_eq_true rfl⟩) (pV (T := TX13) hP hK hD hT hG hS ky33_0 (by decide) rfl) rfl rfl hl.1 rfl (lv_room (Nat.le_of_ble_eq_true rfl)) dX13_readStatue_265 ⟨Nat.zero_le _, Nat.zero_le _⟩) hS (fun H locs hP hD hT hS => ?_)
            refine lv_aload_n hx hb dX13_readStatue_268 rfl (lv_at hl 0 rfl) ?_
            refine lv_iconst (v := 1) hx hb dX13_readStatue_269 rfl ?_
            obtain ⟨z38, h38, h⟩ := ob_some h
            refine k_i (va_runV (As := [.int 1]) (rest := []) ⟨hx, hb, hml, hown, hts⟩ (c_X13_readKnown (l := l) z37 y33_0 1 ky33_0 h38) (cwV 1 hts gX13_readStatue_X13_readKnown rfl rfl rfl hdV_X13_readKnown ⟨Nat.le_of_ble_eq_true rfl, Nat.le_of_ble_eq_true rfl⟩) (pV (T := TX13) hP hK hD hT hG hS ky33_0 (by decide) rfl) rfl rfl hl.1 rfl (lv_room (Nat.le_of_ble_eq_true rfl)) dX13_readStatue_270 ⟨Nat.zero_le _, Nat.zero_le _⟩) hS (fun H locs hP hD hT hS => ?_)
            refine lv_istore (lv' := [(6, .int z38.1), (0, .ref (ad y33_0)), (1, .int y33_1), (2, .int y33_2), (3, .int y33_3), (4, .int y33_4), (5, .int y33_5)]) hx hb dX13_readStatue_273 hl (by decide) rfl (fun ls hl => ?_)
            refine lv_aload_n hx hb dX13_readStatue_275 rfl (lv_at hl 1 rfl) ?_
            refine r_ldcSw (tx := "at") (i := 14) hx hb hG hown (by decide +kernel) dX13_readStatue_276 ?_
            refine lv_iconst (v := 0) hx hb dX13_readStatue_279 rfl ?_
            refine lv_aload_n hx hb dX13_readStatue_280 rfl (lv_at hl 1 rfl) ?_
            refine r_get (T := TX13) (v := .int (gI z38.2 y33_0 9)) hx hb hts in13 hown hK hP ky33_0 (by decide) rfl 9 (by decide) (hts (.fieldLink RX13 58 "StoneWalkModel" "sort" "I") (List.mem_of_getElem? (i := 2) (by decide +kernel))) rfl (t := 0) rfl rfl dX13_readStatue_281 ?_
            refine lv_iconst (v := 5) hx hb dX13_readStatue_284 rfl ?_
            refine lv_icmp_ne (tgt := 292) hx hb dX13_readStatue_285 rfl (fun c39 => ?_) (fun c39 => ?_)
            · replace h := ite_f c39 h
              refine lv_aload_n hx hb dX13_readStatue_292 rfl (lv_at hl 1 rfl) ?_
              rcases hN40 : gR z38.2 y33_0 4 with _ | b40
              · replace h := oc_n hN40 h
                refine r_get (T := TX13) (v := .null) hx hb hts in13 hown hK hP ky33_0 (by decide) rfl 4 (by decide) (hts (.fieldLink RX13 150 "StoneWalkModel" "read" "LStoneWalkModel$Island;") (List.mem_of_getElem? (i := 1) (by decide +kernel))) rfl (t := 2) rfl (by show va_rf _ = _; rw [hN40]; rfl) dX13_readStatue_293 ?_
                exact absurd h (by simp)
              · replace h := oc_s hN40 h
                have kb40 := hT.f ky33_0 (k := 4) (t := 12) (n := 0) rfl hN40
                refine r_get (T := TX13) (v := .ref (ad b40)) hx hb hts in13 hown hK hP ky33_0 (by decide) rfl 4 (by decide) (hts (.fieldLink RX13 150 "StoneWalkModel" "read" "LStoneWalkModel$Island;") (List.mem_of_getElem? (i := 1) (by decide +kernel))) rfl (t := 2) rfl (by show va_rf _ = _; rw [hN40]; rfl) dX13_readStatue_293 ?_
                rcases hN41 : gR z38.2 b40 13 with _ | b41
                · exact absurd (oc_n hN41 h) (by simp)
                replace h := oc_s hN41 h
                have kb41 := hT.f kb40 (k := 13) (t := 15) (n := 3) rfl hN41
                refine r_getN (T := TX12) (v := .ref (ad b41)) hx hb hts in12 hown hK hP kb40 (by decide) rfl 13 (by decide) (hG.2.2.1 ("StoneWalkModel", 266, "StoneWalkModel$Island", "slopes", "[I", "StoneWalkModel") (List.mem_of_getElem? (i := 13) rfl)) rfl (t := 2) rfl (by show va_rf _ = _; rw [hN41]; rfl) dX13_readStatue_296 ?_
                refine lv_iload hx hb dX13_readStatue_299 (lv_at hl 0 rfl) ?_
                obtain ⟨hn42, h⟩ := chk_some h
                refine r_iald hx hb hK hP kb41 hn42 dX13_readStatue_301 ?_
                refine lv_iconst (v := 1) hx hb dX13_readStatue_302 rfl ?_
                refine lv_isub hx hb dX13_readStatue_303 ?_
                exact J34 z38.2 y33_0 y33_1 y33_2 y33_3 y33_4 y33_5 z38.1 ((gI z38.2 b41 (ix z38.1)) - 1) 0 14 y33_0 ky33_0 (by decide) ky33_0 _ _ h hP hD hT hS ls (lv_sub hl [1, 2, 3, 4, 5, 6, 0] rfl)
            · replace h := ite_t c39 h
              refine lv_iconst (v := 0) hx hb dX13_readStatue_288 rfl ?_
              refine lv_goto (tgt := 304) hx hb dX13_readStatue_289 rfl ?_
              exact J34 z38.2 y33_0 y33_1 y33_2 y33_3 y33_4 y33_5 z38.1 0 0 14 y33_0 ky33_0 (by decide) ky33_0 _ _ h hP hD hT hS ls (lv_sub hl [1, 2, 3, 4, 5, 6, 0] rfl)
          refine lv_istore (lv' := [(5, .int w32_0), (0, .ref (ad y32_0)), (1, .int y32_1), (2, .int y32_2), (3, .int y32_3), (4, .int y32_4)]) hx hb dX13_readStatue_244 hl (by decide) rfl (fun ls hl => ?_)
          refine lv_iload hx hb dX13_readStatue_246 (lv_at hl 0 rfl) ?_
          refine lv_iconst (v := (-1)) hx hb dX13_readStatue_248 rfl ?_
          refine lv_icmp_ne (tgt := 257) hx hb dX13_readStatue_249 rfl (fun c43 => ?_) (fun c43 => ?_)
          · replace h := ite_f c43 h
            exact J33 M32 y32_0 y32_1 y32_2 y32_3 y32_4 w32_0 ky32_0 _ _ h hP hD hT hS ls (lv_sub hl [1, 2, 3, 4, 5, 0] rfl)
          · replace h := ite_t c43 h
            refine lv_aload_n hx hb dX13_readStatue_252 rfl (lv_at hl 1 rfl) ?_
            refine lv_iconst (v := 1) hx hb dX13_readStatue_253 rfl ?_
            obtain ⟨z44, h44, h⟩ := ob_some h
            refine k_v (va_runV (As := [.int 1]) (rest := []) ⟨hx, hb, hml, hown, hts⟩ (c_X13_wrong (l := l) M32 y32_0 1 ky32_0 h44) (cwV 1 hts gX13_readStatue_X13_wrong rfl rfl rfl hdV_X13_wrong ⟨Nat.le_of_ble_eq_true rfl, Nat.le_of_ble_eq_true rfl⟩) (pV (T := TX13) hP hK hD hT hG hS ky32_0 (by decide) rfl) rfl rfl hl.1 rfl (lv_room (Nat.le_of_ble_eq_true rfl)) dX13_readStatue_254 ⟨Nat.zero_le _, Nat.zero_le _⟩) hS (fun H locs hP hD hT hS => ?_)
            exact J33 z44 y32_0 y32_1 y32_2 y32_3 y32_4 w32_0 ky32_0 _ _ h hP hD hT hS ls (lv_sub hl [1, 2, 3, 4, 5, 0] rfl)
        refine lv_aload_n hx hb dX13_readStatue_179 rfl (lv_at hl 0 rfl) ?_
        obtain ⟨z45, h45, h⟩ := ob_some h
        refine k_v (va_runV (As := []) (rest := []) ⟨hx, hb, hml, hown, hts⟩ (c_X13_goesOn (l := l) M3 y3_0 ky3_0 h45) (cwV 0 hts gX13_readStatue_X13_goesOn rfl rfl rfl hdV_X13_goesOn ⟨Nat.le_of_ble_eq_true rfl, Nat.le_of_ble_eq_true rfl⟩) (pV (T := TX13) hP hK hD hT hG hS ky3_0 (by decide) rfl) rfl rfl hl.1 rfl (lv_room (Nat.le_of_ble_eq_true rfl)) dX13_readStatue_180 ⟨Nat.zero_le _, Nat.zero_le _⟩) hS (fun H locs hP hD hT hS => ?_)
        refine lv_bipush (v := (-2)) hx hb dX13_readStatue_183 rfl ?_
        refine lv_istore (lv' := [(5, .int (-2)), (0, .ref (ad y3_0)), (1, .int y3_1), (2, .int y3_2), (3, .int y3_3), (4, .int y3_4)]) hx hb dX13_readStatue_185 hl (by decide) rfl (fun ls hl => ?_)
        refine lv_bipush (v := (-2)) hx hb dX13_readStatue_187 rfl ?_
        refine lv_istore (lv' := [(6, .int (-2)), (5, .int (-2)), (0, .ref (ad y3_0)), (1, .int y3_1), (2, .int y3_2), (3, .int y3_3), (4, .int y3_4)]) hx hb dX13_readStatue_189 hl (by decide) rfl (fun ls hl => ?_)
        refine lv_bipush (v := (-2)) hx hb dX13_readStatue_191 rfl ?_
        refine lv_istore (lv' := [(7, .int (-2)), (6, .int (-2)), (5, .int (-2)), (0, .ref (ad y3_0)), (1, .int y3_1), (2, .int y3_2), (3, .int y3_3), (4, .int y3_4)]) hx hb dX13_readStatue_193 hl (by decide) rfl (fun ls hl => ?_)
        refine lv_iload hx hb dX13_readStatue_195 (lv_at hl 7 rfl) ?_
        refine lv_iconst (v := 5) hx hb dX13_readStatue_197 rfl ?_
        refine lv_icmp_ne (tgt := 309) hx hb dX13_readStatue_198 rfl (fun c46 => ?_) (fun c46 => ?_)
        · replace h := ite_f c46 h
          exact J4 z45 y3_0 y3_1 y3_2 y3_3 y3_4 (-2) (-2) (-2) ky3_0 _ _ h hP hD hT hS ls (lv_sub hl [3, 4, 5, 6, 7, 2, 1, 0] rfl)
        · replace h := ite_t c46 h
          refine lv_aload_n hx hb dX13_readStatue_201 rfl (lv_at hl 3 rfl) ?_
          refine r_ldcSw (tx := "face") (i := 51) hx hb hG hown (by decide +kernel) dX13_readStatue_202 ?_
          obtain ⟨z47, h47, h⟩ := ob_some h
          refine k_z (va_runV (As := [.ref (q.2.1 51)]) (rest := []) ⟨hx, hb, hml, hown, hts⟩ (c_X13_isWord (l := l) z45 y3_0 51 ky3_0 (by decide) h47) (cwV 1 hts gX13_readStatue_X13_isWord rfl rfl rfl hdV_X13_isWord ⟨Nat.le_of_ble_eq_true rfl, Nat.le_of_ble_eq_true rfl⟩) (pV (T := TX13) hP hK hD hT hG hS ky3_0 (by decide) rfl) rfl rfl hl.1 rfl (lv_room (Nat.le_of_ble_eq_true rfl)) dX13_readStatue_205 ⟨Nat.zero_le _, Nat.zero_le _⟩) hS (fun H locs hz47 hP hD hT hS => ?_)
          refine lv_if_eq (tgt := 215) hx hb dX13_readStatue_208 rfl (fun c48 => ?_) (fun c48 => ?_)
          · replace h := ite_t c48 h
            refine lv_aload_n hx hb dX13_readStatue_215 rfl (lv_at hl 3 rfl) ?_
            refine r_ldcSw (tx := "back") (i := 52) hx hb hG hown (by decide +kernel) dX13_readStatue_216 ?_
            obtain ⟨z49, h49, h⟩ := ob_some h
            refine k_z (va_runV (As := [.ref (q.2.1 52)]) (rest := []) ⟨hx, hb, hml, hown, hts⟩ (c_X13_isWord (l := l) z45 y3_0 52 ky3_0 (by decide) h49) (cwV 1 hts gX13_readStatue_X13_isWord rfl rfl rfl hdV_X13_isWord ⟨Nat.le_of_ble_eq_true rfl, Nat.le_of_ble_eq_true rfl⟩) (pV (T := TX13) hP hK hD hT hG hS ky3_0 (by decide) rfl) rfl rfl hl.1 rfl (lv_room (Nat.le_of_ble_eq_true rfl)) dX13_readStatue_219 ⟨Nat.zero_le _, Nat.zero_le _⟩) hS (fun H locs hz49 hP hD hT hS => ?_)
            refine lv_if_eq (tgt := 229) hx hb dX13_readStatue_222 rfl (fun c50 => ?_) (fun c50 => ?_)
            · replace h := ite_t c50 h
              refine lv_aload_n hx hb dX13_readStatue_229 rfl (lv_at hl 3 rfl) ?_
              refine r_ldcSw (tx := "side") (i := 53) hx hb hG hown (by decide +kernel) dX13_readStatue_230 ?_
              obtain ⟨z51, h51, h⟩ := ob_some h
              refine k_z (va_runV (As := [.ref (q.2.1 53)]) (rest := []) ⟨hx, hb, hml, hown, hts⟩ (c_X13_isWord (l := l) z45 y3_0 53 ky3_0 (by decide) h51) (cwV 1 hts gX13_readStatue_X13_isWord rfl rfl rfl hdV_X13_isWord ⟨Nat.le_of_ble_eq_true rfl, Nat.le_of_ble_eq_true rfl⟩) (pV (T := TX13) hP hK hD hT hG hS ky3_0 (by decide) rfl) rfl rfl hl.1 rfl (lv_room (Nat.le_of_ble_eq_true rfl)) dX13_readStatue_233 ⟨Nat.zero_le _, Nat.zero_le _⟩) hS (fun H locs hz51 hP hD hT hS => ?_)
              refine lv_if_eq (tgt := 243) hx hb dX13_readStatue_236 rfl (fun c52 => ?_) (fun c52 => ?_)
              · replace h := ite_t c52 h
                refine lv_iconst (v := (-1)) hx hb dX13_readStatue_243 rfl ?_
                exact J32 z45 y3_0 y3_1 y3_2 y3_3 y3_4 (-1) ky3_0 _ _ h hP hD hT hS ls (lv_sub hl [3, 4, 5, 6, 7] rfl)
              · replace h := ite_f c52 h
                refine lv_iconst (v := 2) hx hb dX13_readStatue_239 rfl ?_
                refine lv_goto (tgt := 244) hx hb dX13_readStatue_240 rfl ?_
                exact J32 z45 y3_0 y3_1 y3_2 y3_3 y3_4 2 ky3_0 _ _ h hP hD hT hS ls (lv_sub hl [3, 4, 5, 6, 7] rfl)
            · replace h := ite_f c50 h
              refine lv_iconst (v := 1) hx hb dX13_readStatue_225 rfl ?_
              refine lv_goto (tgt := 244) hx hb dX13_readStatue_226 rfl ?_
              exact J32 z45 y3_0 y3_1 y3_2 y3_3 y3_4 1 ky3_0 _ _ h hP hD hT hS ls (lv_sub hl [3, 4, 5, 6, 7] rfl)
          · replace h := ite_f c48 h
            refine lv_iconst (v := 0) hx hb dX13_readStatue_211 rfl ?_
            refine lv_goto (tgt := 244) hx hb dX13_readStatue_212 rfl ?_
            exact J32 z45 y3_0 y3_1 y3_2 y3_3 y3_4 0 ky3_0 _ _ h hP hD hT hS ls (lv_sub hl [3, 4, 5, 6, 7] rfl)
      refine lv_iload hx hb dX13_readStatue_156 (lv_at hl 4 rfl) ?_
      refine lv_iconst (v := 5) hx hb dX13_readStatue_158 rfl ?_
      refine lv_icmp_ne (tgt := 179) hx hb dX13_readStatue_159 rfl (fun c53 => ?_) (fun c53 => ?_)
      · replace h := ite_f c53 h
        exact J3 M2 y2_0 y2_1 y2_2 y2_3 y2_4 ky2_0 _ _ h hP hD hT hS ls (lv_sub hl [0, 1, 2, 3, 4] rfl)
      · replace h := ite_t c53 h
        refine lv_aload_n hx hb dX13_readStatue_162 rfl (lv_at hl 0 rfl) ?_
        rcases hN54 : gR M2 y2_0 4 with _ | b54
        · replace h := oc_n hN54 h
          refine r_get (T := TX13) (v := .null) hx hb hts in13 hown hK hP ky2_0 (by decide) rfl 4 (by decide) (hts (.fieldLink RX13 150 "StoneWalkModel" "read" "LStoneWalkModel$Island;") (List.mem_of_getElem? (i := 1) (by decide +kernel))) rfl (t := 2) rfl (by show va_rf _ = _; rw [hN54]; rfl) dX13_readStatue_163 ?_
          exact absurd h (by simp)
        · replace h := oc_s hN54 h
          have kb54 := hT.f ky2_0 (k := 4) (t := 12) (n := 0) rfl hN54
          refine r_get (T := TX13) (v := .ref (ad b54)) hx hb hts in13 hown hK hP ky2_0 (by decide) rfl 4 (by decide) (hts (.fieldLink RX13 150 "StoneWalkModel" "read" "LStoneWalkModel$Island;") (List.mem_of_getElem? (i := 1) (by decide +kernel))) rfl (t := 2) rfl (by show va_rf _ = _; rw [hN54]; rfl) dX13_readStatue_163 ?_
          refine r_getN (T := TX12) (v := .int (gI M2 b54 3)) hx hb hts in12 hown hK hP kb54 (by decide) rfl 3 (by decide) (hG.2.2.1 ("StoneWalkModel", 286, "StoneWalkModel$Island", "lying", "I", "StoneWalkModel") (List.mem_of_getElem? (i := 14) rfl)) rfl (t := 0) rfl rfl dX13_readStatue_166 ?_
          refine lv_bipush (v := 8) hx hb dX13_readStatue_169 rfl ?_
          refine lv_icmp_ne (tgt := 179) hx hb dX13_readStatue_171 rfl (fun c55 => ?_) (fun c55 => ?_)
          · replace h := ite_f c55 h
            exact J3 M2 y2_0 y2_1 y2_2 y2_3 y2_4 ky2_0 _ _ h hP hD hT hS ls (lv_sub hl [0, 1, 2, 3, 4] rfl)
          · replace h := ite_t c55 h
            refine lv_aload_n hx hb dX13_readStatue_174 rfl (lv_at hl 0 rfl) ?_
            refine lv_iconst (v := 5) hx hb dX13_readStatue_175 rfl ?_
            obtain ⟨z56, h56, h⟩ := ob_some h
            refine k_v (va_runV (As := [.int 5]) (rest := []) ⟨hx, hb, hml, hown, hts⟩ (c_X13_wrong (l := l) M2 y2_0 5 ky2_0 h56) (cwV 1 hts gX13_readStatue_X13_wrong rfl rfl rfl hdV_X13_wrong ⟨Nat.le_of_ble_eq_true rfl, Nat.le_of_ble_eq_true rfl⟩) (pV (T := TX13) hP hK hD hT hG hS ky2_0 (by decide) rfl) rfl rfl hl.1 rfl (lv_room (Nat.le_of_ble_eq_true rfl)) dX13_readStatue_176 ⟨Nat.zero_le _, Nat.zero_le _⟩) hS (fun H locs hP hD hT hS => ?_)
            exact J3 z56 y2_0 y2_1 y2_2 y2_3 y2_4 ky2_0 _ _ h hP hD hT hS ls (lv_sub hl [0, 1, 2, 3, 4] rfl)
    refine lv_istore (lv' := [(4, .int w1_0), (0, .ref (ad y1_0)), (1, .int y1_1), (2, .int y1_2), (3, .int y1_3)]) hx hb dX13_readStatue_143 hl (by decide) rfl (fun ls hl => ?_)
    refine lv_iload hx hb dX13_readStatue_145 (lv_at hl 0 rfl) ?_
    refine lv_iconst (v := (-1)) hx hb dX13_readStatue_147 rfl ?_
    refine lv_icmp_ne (tgt := 156) hx hb dX13_readStatue_148 rfl (fun c57 => ?_) (fun c57 => ?_)
    · replace h := ite_f c57 h
      exact J2 M1 y1_0 y1_1 y1_2 y1_3 w1_0 ky1_0 _ _ h hP hD hT hS ls (lv_sub hl [1, 2, 3, 4, 0] rfl)
    · replace h := ite_t c57 h
      refine lv_aload_n hx hb dX13_readStatue_151 rfl (lv_at hl 1 rfl) ?_
      refine lv_iconst (v := 1) hx hb dX13_readStatue_152 rfl ?_
      obtain ⟨z58, h58, h⟩ := ob_some h
      refine k_v (va_runV (As := [.int 1]) (rest := []) ⟨hx, hb, hml, hown, hts⟩ (c_X13_wrong (l := l) M1 y1_0 1 ky1_0 h58) (cwV 1 hts gX13_readStatue_X13_wrong rfl rfl rfl hdV_X13_wrong ⟨Nat.le_of_ble_eq_true rfl, Nat.le_of_ble_eq_true rfl⟩) (pV (T := TX13) hP hK hD hT hG hS ky1_0 (by decide) rfl) rfl rfl hl.1 rfl (lv_room (Nat.le_of_ble_eq_true rfl)) dX13_readStatue_153 ⟨Nat.zero_le _, Nat.zero_le _⟩) hS (fun H locs hP hD hT hS => ?_)
      exact J2 z58 y1_0 y1_1 y1_2 y1_3 w1_0 ky1_0 _ _ h hP hD hT hS ls (lv_sub hl [1, 2, 3, 4, 0] rfl)
  refine lv_aload_n hx hb dX13_readStatue_0 rfl (lv_at hl 0 rfl) ?_
  refine lv_aload_n hx hb dX13_readStatue_1 rfl (lv_at hl 0 rfl) ?_
  rcases hN59 : gR M a0 4 with _ | b59
  · replace h := oc_n hN59 h
    refine r_get (T := TX13) (v := .null) hx hb hts in13 hown hK hP k0 (by decide) rfl 4 (by decide) (hts (.fieldLink RX13 150 "StoneWalkModel" "read" "LStoneWalkModel$Island;") (List.mem_of_getElem? (i := 1) (by decide +kernel))) rfl (t := 2) rfl (by show va_rf _ = _; rw [hN59]; rfl) dX13_readStatue_2 ?_
    exact absurd h (by simp)
  · replace h := oc_s hN59 h
    have kb59 := hT.f k0 (k := 4) (t := 12) (n := 0) rfl hN59
    refine r_get (T := TX13) (v := .ref (ad b59)) hx hb hts in13 hown hK hP k0 (by decide) rfl 4 (by decide) (hts (.fieldLink RX13 150 "StoneWalkModel" "read" "LStoneWalkModel$Island;") (List.mem_of_getElem? (i := 1) (by decide +kernel))) rfl (t := 2) rfl (by show va_rf _ = _; rw [hN59]; rfl) dX13_readStatue_2 ?_
    refine r_getN (T := TX12) (v := .int (gI M b59 2)) hx hb hts in12 hown hK hP kb59 (by decide) rfl 2 (by decide) (hG.2.2.1 ("StoneWalkModel", 191, "StoneWalkModel$Island", "statues", "I", "StoneWalkModel") (List.mem_of_getElem? (i := 7) rfl)) rfl (t := 0) rfl rfl dX13_readStatue_5 ?_
    refine lv_bipush (v := 10) hx hb dX13_readStatue_8 rfl ?_
    obtain ⟨z60, h60, h⟩ := ob_some h
    refine k_v (va_runV (As := [.int (gI M b59 2), .int 10]) (rest := []) ⟨hx, hb, hml, hown, hts⟩ (c_X13_begins (l := l) M a0 (gI M b59 2) 10 k0 h60) (cwV 2 hts gX13_readStatue_X13_begins rfl rfl rfl hdV_X13_begins ⟨Nat.le_of_ble_eq_true rfl, Nat.le_of_ble_eq_true rfl⟩) (pV (T := TX13) hP hK hD hT hG hS k0 (by decide) rfl) rfl rfl hl.1 rfl (lv_room (Nat.le_of_ble_eq_true rfl)) dX13_readStatue_10 ⟨Nat.zero_le _, Nat.zero_le _⟩) hS (fun H locs hP hD hT hS => ?_)
    refine lv_aload_n hx hb dX13_readStatue_13 rfl (lv_at hl 0 rfl) ?_
    refine lv_iconst (v := 2) hx hb dX13_readStatue_14 rfl ?_
    refine lv_aload_n hx hb dX13_readStatue_15 rfl (lv_at hl 0 rfl) ?_
    rcases hN61 : gR z60 a0 4 with _ | b61
    · replace h := oc_n hN61 h
      refine r_get (T := TX13) (v := .null) hx hb hts in13 hown hK hP k0 (by decide) rfl 4 (by decide) (hts (.fieldLink RX13 150 "StoneWalkModel" "read" "LStoneWalkModel$Island;") (List.mem_of_getElem? (i := 1) (by decide +kernel))) rfl (t := 2) rfl (by show va_rf _ = _; rw [hN61]; rfl) dX13_readStatue_16 ?_
      exact absurd h (by simp)
    · replace h := oc_s hN61 h
      have kb61 := hT.f k0 (k := 4) (t := 12) (n := 0) rfl hN61
      refine r_get (T := TX13) (v := .ref (ad b61)) hx hb hts in13 hown hK hP k0 (by decide) rfl 4 (by decide) (hts (.fieldLink RX13 150 "StoneWalkModel" "read" "LStoneWalkModel$Island;") (List.mem_of_getElem? (i := 1) (by decide +kernel))) rfl (t := 2) rfl (by show va_rf _ = _; rw [hN61]; rfl) dX13_readStatue_16 ?_
      refine r_getN (T := TX12) (v := .int (gI z60 b61 2)) hx hb hts in12 hown hK hP kb61 (by decide) rfl 2 (by decide) (hG.2.2.1 ("StoneWalkModel", 191, "StoneWalkModel$Island", "statues", "I", "StoneWalkModel") (List.mem_of_getElem? (i := 7) rfl)) rfl (t := 0) rfl rfl dX13_readStatue_19 ?_
      obtain ⟨z62, h62, h⟩ := ob_some h
      refine k_v (va_runV (As := [.int 2, .int (gI z60 b61 2)]) (rest := []) ⟨hx, hb, hml, hown, hts⟩ (c_X13_readFresh (l := l) z60 a0 2 (gI z60 b61 2) k0 h62) (cwV 2 hts gX13_readStatue_X13_readFresh rfl rfl rfl hdV_X13_readFresh ⟨Nat.le_of_ble_eq_true rfl, Nat.le_of_ble_eq_true rfl⟩) (pV (T := TX13) hP hK hD hT hG hS k0 (by decide) rfl) rfl rfl hl.1 rfl (lv_room (Nat.le_of_ble_eq_true rfl)) dX13_readStatue_22 ⟨Nat.zero_le _, Nat.zero_le _⟩) hS (fun H locs hP hD hT hS => ?_)
      refine lv_aload_n hx hb dX13_readStatue_25 rfl (lv_at hl 0 rfl) ?_
      refine r_ldcSw (tx := "tons") (i := 7) hx hb hG hown (by decide +kernel) dX13_readStatue_26 ?_
      refine lv_iconst (v := 1) hx hb dX13_readStatue_29 rfl ?_
      refine lv_bipush (v := 99) hx hb dX13_readStatue_30 rfl ?_
      obtain ⟨z63, h63, h⟩ := ob_some h
      refine k_i (va_runV (As := [.ref (q.2.1 7), .int 1, .int 99]) (rest := []) ⟨hx, hb, hml, hown, hts⟩ (c_X13_readPart (l := l) z62 a0 7 1 99 k0 (by decide) h63) (cwV 3 hts gX13_readStatue_X13_readPart rfl rfl rfl hdV_X13_readPart ⟨Nat.le_of_ble_eq_true rfl, Nat.le_of_ble_eq_true rfl⟩) (pV (T := TX13) hP hK hD hT hG hS k0 (by decide) rfl) rfl rfl hl.1 rfl (lv_room (Nat.le_of_ble_eq_true rfl)) dX13_readStatue_32 ⟨Nat.zero_le _, Nat.zero_le _⟩) hS (fun H locs hP hD hT hS => ?_)
      refine lv_istore_n (lv' := [(1, .int z63.1), (0, .ref (ad a0))]) hx hb dX13_readStatue_35 rfl hl (by decide) rfl (fun ls hl => ?_)
      refine lv_aload_n hx hb dX13_readStatue_36 rfl (lv_at hl 1 rfl) ?_
      refine r_ldcSw (tx := "lean") (i := 8) hx hb hG hown (by decide +kernel) dX13_readStatue_37 ?_
      refine lv_iconst (v := 0) hx hb dX13_readStatue_40 rfl ?_
      refine lv_bipush (v := 30) hx hb dX13_readStatue_41 rfl ?_
      obtain ⟨z64, h64, h⟩ := ob_some h
      refine k_i (va_runV (As := [.ref (q.2.1 8), .int 0, .int 30]) (rest := []) ⟨hx, hb, hml, hown, hts⟩ (c_X13_readPart (l := l) z63.2 a0 8 0 30 k0 (by decide) h64) (cwV 3 hts gX13_readStatue_X13_readPart rfl rfl rfl hdV_X13_readPart ⟨Nat.le_of_ble_eq_true rfl, Nat.le_of_ble_eq_true rfl⟩) (pV (T := TX13) hP hK hD hT hG hS k0 (by decide) rfl) rfl rfl hl.1 rfl (lv_room (Nat.le_of_ble_eq_true rfl)) dX13_readStatue_43 ⟨Nat.zero_le _, Nat.zero_le _⟩) hS (fun H locs hP hD hT hS => ?_)
      refine lv_istore_n (lv' := [(2, .int z64.1), (1, .int z63.1), (0, .ref (ad a0))]) hx hb dX13_readStatue_46 rfl hl (by decide) rfl (fun ls hl => ?_)
      refine lv_aload_n hx hb dX13_readStatue_47 rfl (lv_at hl 2 rfl) ?_
      refine r_ldcSw (tx := "edge") (i := 9) hx hb hG hown (by decide +kernel) dX13_readStatue_48 ?_
      refine lv_iconst (v := 0) hx hb dX13_readStatue_51 rfl ?_
      refine lv_bipush (v := 20) hx hb dX13_readStatue_52 rfl ?_
      obtain ⟨z65, h65, h⟩ := ob_some h
      refine k_i (va_runV (As := [.ref (q.2.1 9), .int 0, .int 20]) (rest := []) ⟨hx, hb, hml, hown, hts⟩ (c_X13_readPart (l := l) z64.2 a0 9 0 20 k0 (by decide) h65) (cwV 3 hts gX13_readStatue_X13_readPart rfl rfl rfl hdV_X13_readPart ⟨Nat.le_of_ble_eq_true rfl, Nat.le_of_ble_eq_true rfl⟩) (pV (T := TX13) hP hK hD hT hG hS k0 (by decide) rfl) rfl rfl hl.1 rfl (lv_room (Nat.le_of_ble_eq_true rfl)) dX13_readStatue_54 ⟨Nat.zero_le _, Nat.zero_le _⟩) hS (fun H locs hP hD hT hS => ?_)
      refine lv_istore_n (lv' := [(3, .int z65.1), (2, .int z64.1), (1, .int z63.1), (0, .ref (ad a0))]) hx hb dX13_readStatue_57 rfl hl (by decide) rfl (fun ls hl => ?_)
      refine lv_aload_n hx hb dX13_readStatue_58 rfl (lv_at hl 3 rfl) ?_
      refine r_ldcSw (tx := "cut") (i := 46) hx hb hG hown (by decide +kernel) dX13_readStatue_59 ?_
      obtain ⟨z66, h66, h⟩ := ob_some h
      refine k_z (va_runV (As := [.ref (q.2.1 46)]) (rest := []) ⟨hx, hb, hml, hown, hts⟩ (c_X13_isWord (l := l) z65.2 a0 46 k0 (by decide) h66) (cwV 1 hts gX13_readStatue_X13_isWord rfl rfl rfl hdV_X13_isWord ⟨Nat.le_of_ble_eq_true rfl, Nat.le_of_ble_eq_true rfl⟩) (pV (T := TX13) hP hK hD hT hG hS k0 (by decide) rfl) rfl rfl hl.1 rfl (lv_room (Nat.le_of_ble_eq_true rfl)) dX13_readStatue_62 ⟨Nat.zero_le _, Nat.zero_le _⟩) hS (fun H locs hz66 hP hD hT hS => ?_)
      refine lv_if_eq (tgt := 72) hx hb dX13_readStatue_65 rfl (fun c67 => ?_) (fun c67 => ?_)
      · replace h := ite_t c67 h
        refine lv_aload_n hx hb dX13_readStatue_72 rfl (lv_at hl 3 rfl) ?_
        refine r_ldcSw (tx := "large") (i := 47) hx hb hG hown (by decide +kernel) dX13_readStatue_73 ?_
        obtain ⟨z68, h68, h⟩ := ob_some h
        refine k_z (va_runV (As := [.ref (q.2.1 47)]) (rest := []) ⟨hx, hb, hml, hown, hts⟩ (c_X13_isWord (l := l) z65.2 a0 47 k0 (by decide) h68) (cwV 1 hts gX13_readStatue_X13_isWord rfl rfl rfl hdV_X13_isWord ⟨Nat.le_of_ble_eq_true rfl, Nat.le_of_ble_eq_true rfl⟩) (pV (T := TX13) hP hK hD hT hG hS k0 (by decide) rfl) rfl rfl hl.1 rfl (lv_room (Nat.le_of_ble_eq_true rfl)) dX13_readStatue_76 ⟨Nat.zero_le _, Nat.zero_le _⟩) hS (fun H locs hz68 hP hD hT hS => ?_)
        refine lv_if_eq (tgt := 86) hx hb dX13_readStatue_79 rfl (fun c69 => ?_) (fun c69 => ?_)
        · replace h := ite_t c69 h
          refine lv_aload_n hx hb dX13_readStatue_86 rfl (lv_at hl 3 rfl) ?_
          refine r_ldcSw (tx := "buried") (i := 48) hx hb hG hown (by decide +kernel) dX13_readStatue_87 ?_
          obtain ⟨z70, h70, h⟩ := ob_some h
          refine k_z (va_runV (As := [.ref (q.2.1 48)]) (rest := []) ⟨hx, hb, hml, hown, hts⟩ (c_X13_isWord (l := l) z65.2 a0 48 k0 (by decide) h70) (cwV 1 hts gX13_readStatue_X13_isWord rfl rfl rfl hdV_X13_isWord ⟨Nat.le_of_ble_eq_true rfl, Nat.le_of_ble_eq_true rfl⟩) (pV (T := TX13) hP hK hD hT hG hS k0 (by decide) rfl) rfl rfl hl.1 rfl (lv_room (Nat.le_of_ble_eq_true rfl)) dX13_readStatue_90 ⟨Nat.zero_le _, Nat.zero_le _⟩) hS (fun H locs hz70 hP hD hT hS => ?_)
          refine lv_if_eq (tgt := 100) hx hb dX13_readStatue_93 rfl (fun c71 => ?_) (fun c71 => ?_)
          · replace h := ite_t c71 h
            refine lv_aload_n hx hb dX13_readStatue_100 rfl (lv_at hl 3 rfl) ?_
            refine r_ldcSw (tx := "stood") (i := 49) hx hb hG hown (by decide +kernel) dX13_readStatue_101 ?_
            obtain ⟨z72, h72, h⟩ := ob_some h
            refine k_z (va_runV (As := [.ref (q.2.1 49)]) (rest := []) ⟨hx, hb, hml, hown, hts⟩ (c_X13_isWord (l := l) z65.2 a0 49 k0 (by decide) h72) (cwV 1 hts gX13_readStatue_X13_isWord rfl rfl rfl hdV_X13_isWord ⟨Nat.le_of_ble_eq_true rfl, Nat.le_of_ble_eq_true rfl⟩) (pV (T := TX13) hP hK hD hT hG hS k0 (by decide) rfl) rfl rfl hl.1 rfl (lv_room (Nat.le_of_ble_eq_true rfl)) dX13_readStatue_104 ⟨Nat.zero_le _, Nat.zero_le _⟩) hS (fun H locs hz72 hP hD hT hS => ?_)
            refine lv_if_eq (tgt := 114) hx hb dX13_readStatue_107 rfl (fun c73 => ?_) (fun c73 => ?_)
            · replace h := ite_t c73 h
              refine lv_aload_n hx hb dX13_readStatue_114 rfl (lv_at hl 3 rfl) ?_
              refine r_ldcSw (tx := "tried") (i := 50) hx hb hG hown (by decide +kernel) dX13_readStatue_115 ?_
              obtain ⟨z74, h74, h⟩ := ob_some h
              refine k_z (va_runV (As := [.ref (q.2.1 50)]) (rest := []) ⟨hx, hb, hml, hown, hts⟩ (c_X13_isWord (l := l) z65.2 a0 50 k0 (by decide) h74) (cwV 1 hts gX13_readStatue_X13_isWord rfl rfl rfl hdV_X13_isWord ⟨Nat.le_of_ble_eq_true rfl, Nat.le_of_ble_eq_true rfl⟩) (pV (T := TX13) hP hK hD hT hG hS k0 (by decide) rfl) rfl rfl hl.1 rfl (lv_room (Nat.le_of_ble_eq_true rfl)) dX13_readStatue_118 ⟨Nat.zero_le _, Nat.zero_le _⟩) hS (fun H locs hz74 hP hD hT hS => ?_)
              refine lv_if_eq (tgt := 128) hx hb dX13_readStatue_121 rfl (fun c75 => ?_) (fun c75 => ?_)
              · replace h := ite_t c75 h
                refine lv_aload_n hx hb dX13_readStatue_128 rfl (lv_at hl 3 rfl) ?_
                refine r_ldcSw (tx := "lies") (i := 10) hx hb hG hown (by decide +kernel) dX13_readStatue_129 ?_
                obtain ⟨z76, h76, h⟩ := ob_some h
                refine k_z (va_runV (As := [.ref (q.2.1 10)]) (rest := []) ⟨hx, hb, hml, hown, hts⟩ (c_X13_isWord (l := l) z65.2 a0 10 k0 (by decide) h76) (cwV 1 hts gX13_readStatue_X13_isWord rfl rfl rfl hdV_X13_isWord ⟨Nat.le_of_ble_eq_true rfl, Nat.le_of_ble_eq_true rfl⟩) (pV (T := TX13) hP hK hD hT hG hS k0 (by decide) rfl) rfl rfl hl.1 rfl (lv_room (Nat.le_of_ble_eq_true rfl)) dX13_readStatue_132 ⟨Nat.zero_le _, Nat.zero_le _⟩) hS (fun H locs hz76 hP hD hT hS => ?_)
                refine lv_if_eq (tgt := 142) hx hb dX13_readStatue_135 rfl (fun c77 => ?_) (fun c77 => ?_)
                · replace h := ite_t c77 h
                  refine lv_iconst (v := (-1)) hx hb dX13_readStatue_142 rfl ?_
                  exact J1 z65.2 a0 z63.1 z64.1 z65.1 (-1) k0 _ _ h hP hD hT hS ls (lv_sub hl [3, 2, 1, 0] rfl)
                · replace h := ite_f c77 h
                  refine lv_iconst (v := 5) hx hb dX13_readStatue_138 rfl ?_
                  refine lv_goto (tgt := 143) hx hb dX13_readStatue_139 rfl ?_
                  exact J1 z65.2 a0 z63.1 z64.1 z65.1 5 k0 _ _ h hP hD hT hS ls (lv_sub hl [3, 2, 1, 0] rfl)
              · replace h := ite_f c75 h
                refine lv_iconst (v := 4) hx hb dX13_readStatue_124 rfl ?_
                refine lv_goto (tgt := 143) hx hb dX13_readStatue_125 rfl ?_
                exact J1 z65.2 a0 z63.1 z64.1 z65.1 4 k0 _ _ h hP hD hT hS ls (lv_sub hl [3, 2, 1, 0] rfl)
            · replace h := ite_f c73 h
              refine lv_iconst (v := 3) hx hb dX13_readStatue_110 rfl ?_
              refine lv_goto (tgt := 143) hx hb dX13_readStatue_111 rfl ?_
              exact J1 z65.2 a0 z63.1 z64.1 z65.1 3 k0 _ _ h hP hD hT hS ls (lv_sub hl [3, 2, 1, 0] rfl)
          · replace h := ite_f c71 h
            refine lv_iconst (v := 2) hx hb dX13_readStatue_96 rfl ?_
            refine lv_goto (tgt := 143) hx hb dX13_readStatue_97 rfl ?_
            exact J1 z65.2 a0 z63.1 z64.1 z65.1 2 k0 _ _ h hP hD hT hS ls (lv_sub hl [3, 2, 1, 0] rfl)
        · replace h := ite_f c69 h
          refine lv_iconst (v := 1) hx hb dX13_readStatue_82 rfl ?_
          refine lv_goto (tgt := 143) hx hb dX13_readStatue_83 rfl ?_
          exact J1 z65.2 a0 z63.1 z64.1 z65.1 1 k0 _ _ h hP hD hT hS ls (lv_sub hl [3, 2, 1, 0] rfl)
      · replace h := ite_f c67 h
        refine lv_iconst (v := 0) hx hb dX13_readStatue_68 rfl ?_
        refine lv_goto (tgt := 143) hx hb dX13_readStatue_69 rfl ?_
        exact J1 z65.2 a0 z63.1 z64.1 z65.1 0 k0 _ _ h hP hD hT hS ls (lv_sub hl [3, 2, 1, 0] rfl)
