set_option maxHeartbeats 4000000 in
set_option maxRecDepth 100000 in
theorem c_X13_readRoad {l : Launch} {D : va_G} {ad : Nat → Nat} {cy : Nat → ClassId} {A : Nat → Prop} {g : CG} {q : SE} (M : MM) (a0 : Nat) (k0 : ok g a0 13 0) {Z : MM} (h : f_X13_readRoad M a0 = some Z) : Met l yX13_readRoad wsX13_readRoad ({ frames := 8, cells := 0, slots := 0, locals := 173 }) (va_Pc [.ref (ad a0)] (Wd D ad cy A g q M)) (va_Qv (fun u => u = Z) (Wd D ad cy A g q) A) 0 0 A := by
  refine Met.ofW (cc := cX13_readRoad) (maxL := 5) (ret := none) (by decide) rfl ?_
  intro p e s m args below meth c s₁ B hml hv
  obtain ⟨rfl, hP, hK, hD, hT, hG⟩ := hv
  have hx := B.exec
  have hb := B.bytes
  have hr := B.returns
  have hts := atoms_spec (ws := wsX13_readRoad) B.pre
  have hown : s.vm.findClass RX13 = some m.cls := findClass_of_methodNamed B.named
  have hlocks := B.notSynchronized
  have in12 : ∀ w ∈ u_ws RX12 TX12 48, w ∈ wsX13_readRoad := fun w h => List.mem_cons_of_mem _ (List.mem_append_right _ h)
  have in13 : ∀ w ∈ u_ws RX13 TX13 29, w ∈ wsX13_readRoad := fun w h => List.mem_cons_of_mem _ (List.mem_append_left _ (List.mem_append_right _ h))
  have hS : va_S A s.heap s.heap [] := va_S.rf
  have hl := lv_entry ([.ref (ad a0)]) (n := 5) (Nat.le_of_ble_eq_true rfl)
  rw [lg_entry_eq]
  generalize (lg_sl ([.ref (ad a0)]) ++ List.replicate (5 - (lg_sl ([.ref (ad a0)])).length) Slot.unset).toArray = ls at hl ⊢
  have hl : lv_has ls 5 [(0, .ref (ad a0))] := hl
  unfold f_X13_readRoad at h
  refine lv_aload_n hx hb dX13_readRoad_0 rfl (lv_at hl 0 rfl) ?_
  refine lv_aload_n hx hb dX13_readRoad_1 rfl (lv_at hl 0 rfl) ?_
  rcases hN1 : gR M a0 4 with _ | b1
  · replace h := oc_n hN1 h
    refine r_get (T := TX13) (v := .null) hx hb hts in13 hown hK hP k0 (by decide) rfl 4 (by decide) (hts (.fieldLink RX13 150 "StoneWalkModel" "read" "LStoneWalkModel$Island;") (List.mem_of_getElem? (i := 1) (by decide +kernel))) rfl (t := 2) rfl (by show va_rf _ = _; rw [hN1]; rfl) dX13_readRoad_2 ?_
    exact absurd h (by simp)
  · replace h := oc_s hN1 h
    have kb1 := hT.f k0 (k := 4) (t := 12) (n := 0) rfl hN1
    refine r_get (T := TX13) (v := .ref (ad b1)) hx hb hts in13 hown hK hP k0 (by decide) rfl 4 (by decide) (hts (.fieldLink RX13 150 "StoneWalkModel" "read" "LStoneWalkModel$Island;") (List.mem_of_getElem? (i := 1) (by decide +kernel))) rfl (t := 2) rfl (by show va_rf _ = _; rw [hN1]; rfl) dX13_readRoad_2 ?_
    refine r_getN (T := TX12) (v := .int (gI M b1 1)) hx hb hts in12 hown hK hP kb1 (by decide) rfl 1 (by decide) (hG.2.2.1 ("StoneWalkModel", 188, "StoneWalkModel$Island", "roads", "I", "StoneWalkModel") (List.mem_of_getElem? (i := 6) rfl)) rfl (t := 0) rfl rfl dX13_readRoad_5 ?_
    refine lv_iconst (v := 3) hx hb dX13_readRoad_8 rfl ?_
    obtain ⟨z2, h2, h⟩ := ob_some h
    refine k_v (va_runV (As := [.int (gI M b1 1), .int 3]) (rest := []) ⟨hx, hb, hml, hown, hts⟩ (c_X13_begins (l := l) M a0 (gI M b1 1) 3 k0 h2) (cwV 2 hts gX13_readRoad_X13_begins rfl rfl rfl hdV_X13_begins ⟨Nat.le_of_ble_eq_true rfl, Nat.le_of_ble_eq_true rfl⟩) (pV (T := TX13) hP hK hD hT hG hS k0 (by decide) rfl) rfl rfl hl.1 rfl (lv_room (Nat.le_of_ble_eq_true rfl)) dX13_readRoad_9 ⟨Nat.zero_le _, Nat.zero_le _⟩) hS (fun H locs hP hD hT hS => ?_)
    refine lv_aload_n hx hb dX13_readRoad_12 rfl (lv_at hl 0 rfl) ?_
    refine lv_iconst (v := 1) hx hb dX13_readRoad_13 rfl ?_
    refine lv_aload_n hx hb dX13_readRoad_14 rfl (lv_at hl 0 rfl) ?_
    rcases hN3 : gR z2 a0 4 with _ | b3
    · replace h := oc_n hN3 h
      refine r_get (T := TX13) (v := .null) hx hb hts in13 hown hK hP k0 (by decide) rfl 4 (by decide) (hts (.fieldLink RX13 150 "StoneWalkModel" "read" "LStoneWalkModel$Island;") (List.mem_of_getElem? (i := 1) (by decide +kernel))) rfl (t := 2) rfl (by show va_rf _ = _; rw [hN3]; rfl) dX13_readRoad_15 ?_
      exact absurd h (by simp)
    · replace h := oc_s hN3 h
      have kb3 := hT.f k0 (k := 4) (t := 12) (n := 0) rfl hN3
      refine r_get (T := TX13) (v := .ref (ad b3)) hx hb hts in13 hown hK hP k0 (by decide) rfl 4 (by decide) (hts (.fieldLink RX13 150 "StoneWalkModel" "read" "LStoneWalkModel$Island;") (List.mem_of_getElem? (i := 1) (by decide +kernel))) rfl (t := 2) rfl (by show va_rf _ = _; rw [hN3]; rfl) dX13_readRoad_15 ?_
      refine r_getN (T := TX12) (v := .int (gI z2 b3 1)) hx hb hts in12 hown hK hP kb3 (by decide) rfl 1 (by decide) (hG.2.2.1 ("StoneWalkModel", 188, "StoneWalkModel$Island", "roads", "I", "StoneWalkModel") (List.mem_of_getElem? (i := 6) rfl)) rfl (t := 0) rfl rfl dX13_readRoad_18 ?_
      obtain ⟨z4, h4, h⟩ := ob_some h
      refine k_v (va_runV (As := [.int 1, .int (gI z2 b3 1)]) (rest := []) ⟨hx, hb, hml, hown, hts⟩ (c_X13_readFresh (l := l) z2 a0 1 (gI z2 b3 1) k0 h4) (cwV 2 hts gX13_readRoad_X13_readFresh rfl rfl rfl hdV_X13_readFresh ⟨Nat.le_of_ble_eq_true rfl, Nat.le_of_ble_eq_true rfl⟩) (pV (T := TX13) hP hK hD hT hG hS k0 (by decide) rfl) rfl rfl hl.1 rfl (lv_room (Nat.le_of_ble_eq_true rfl)) dX13_readRoad_21 ⟨Nat.zero_le _, Nat.zero_le _⟩) hS (fun H locs hP hD hT hS => ?_)
      refine lv_aload_n hx hb dX13_readRoad_24 rfl (lv_at hl 0 rfl) ?_
      refine r_ldcS (tx := "hollow") (i := 4) hx hb hG hown (by decide +kernel) dX13_readRoad_25 ?_
      refine lv_iconst (v := 0) hx hb dX13_readRoad_27 rfl ?_
      refine lv_bipush (v := 9) hx hb dX13_readRoad_28 rfl ?_
      obtain ⟨z5, h5, h⟩ := ob_some h
      refine k_i (va_runV (As := [.ref (q.2.1 4), .int 0, .int 9]) (rest := []) ⟨hx, hb, hml, hown, hts⟩ (c_X13_readPart (l := l) z4 a0 4 0 9 k0 (by decide) h5) (cwV 3 hts gX13_readRoad_X13_readPart rfl rfl rfl hdV_X13_readPart ⟨Nat.le_of_ble_eq_true rfl, Nat.le_of_ble_eq_true rfl⟩) (pV (T := TX13) hP hK hD hT hG hS k0 (by decide) rfl) rfl rfl hl.1 rfl (lv_room (Nat.le_of_ble_eq_true rfl)) dX13_readRoad_30 ⟨Nat.zero_le _, Nat.zero_le _⟩) hS (fun H locs hP hD hT hS => ?_)
      refine lv_istore_n (lv' := [(1, .int z5.1), (0, .ref (ad a0))]) hx hb dX13_readRoad_33 rfl hl (by decide) rfl (fun ls hl => ?_)
      refine lv_aload_n hx hb dX13_readRoad_34 rfl (lv_at hl 1 rfl) ?_
      refine r_ldcSw (tx := "slopes") (i := 5) hx hb hG hown (by decide +kernel) dX13_readRoad_35 ?_
      obtain ⟨z6, h6, h⟩ := ob_some h
      refine k_v (va_runV (As := [.ref (q.2.1 5)]) (rest := []) ⟨hx, hb, hml, hown, hts⟩ (c_X13_needs (l := l) z5.2 a0 5 k0 (by decide) h6) (cwV 1 hts gX13_readRoad_X13_needs rfl rfl rfl hdV_X13_needs ⟨Nat.le_of_ble_eq_true rfl, Nat.le_of_ble_eq_true rfl⟩) (pV (T := TX13) hP hK hD hT hG hS k0 (by decide) rfl) rfl rfl hl.1 rfl (lv_room (Nat.le_of_ble_eq_true rfl)) dX13_readRoad_38 ⟨Nat.zero_le _, Nat.zero_le _⟩) hS (fun H locs hP hD hT hS => ?_)
      refine lv_iconst (v := 0) hx hb dX13_readRoad_41 rfl ?_
      refine lv_istore_n (lv' := [(2, .int 0), (1, .int z5.1), (0, .ref (ad a0))]) hx hb dX13_readRoad_42 rfl hl (by decide) rfl (fun ls hl => ?_)
      refine lv_aload_n hx hb dX13_readRoad_43 rfl (lv_at hl 2 rfl) ?_
      refine r_get (T := TX13) (v := .int (gI z6 a0 9)) hx hb hts in13 hown hK hP k0 (by decide) rfl 9 (by decide) (hts (.fieldLink RX13 58 "StoneWalkModel" "sort" "I") (List.mem_of_getElem? (i := 2) (by decide +kernel))) rfl (t := 0) rfl rfl dX13_readRoad_44 ?_
      refine lv_iconst (v := 5) hx hb dX13_readRoad_47 rfl ?_
      refine lv_icmp_eq (tgt := 55) hx hb dX13_readRoad_48 rfl (fun c7 => ?_) (fun c7 => ?_)
      · replace h := ite_t c7 h
        refine lv_iconst (v := 0) hx hb dX13_readRoad_55 rfl ?_
        refine lv_istore_n (lv' := [(3, .int 0), (2, .int 0), (1, .int z5.1), (0, .ref (ad a0))]) hx hb dX13_readRoad_56 rfl hl (by decide) rfl (fun ls hl => ?_)
        have L8 : ∀ n8 : Nat, ∀ (M8 : MM) (y8_0 : Nat) (y8_1 : Int32) (y8_2 : Int32) (y8_3 : Int32) (ky8_0 : ok g y8_0 13 0) (H : Heap) (locs : List Loc), f_X13_readRoad_L57 n8 M8 y8_0 y8_1 y8_2 y8_3 = some Z → va_P D vwCl (wd ad cy g M8) H → va_D A (wd ad cy g M8) → WT g M8 → va_S A s.heap H locs → ∀ (ls : Array Slot), lv_has ls 5 [(0, .ref (ad y8_0)), (1, .int y8_1), (2, .int y8_2), (3, .int y8_3)] → W p l e ((headSpec wsX13_readRoad ({ frames := 8, cells := 0, slots := 0, locals := 173 })).room) s m (([.ref (ad a0)] : List Value).toArray) below meth c H locs 0 0 (MQ below (va_Qv (fun u => u = Z) (Wd D ad cy A g q) A) ([.ref (ad a0)]).toArray s 0 0 A) (F0 m 57 ls []) := by
          intro n8
          induction n8 with
          | zero => intro M8 y8_0 y8_1 y8_2 y8_3 ky8_0 H locs h; exact absurd h (by simp [f_X13_readRoad_L57])
          | succ n8 ih8 =>
            intro M8 y8_0 y8_1 y8_2 y8_3 ky8_0 H locs h hP hD hT hS ls hl
            rw [f_X13_readRoad_L57] at h
            refine lv_iload_n hx hb dX13_readRoad_57 rfl (lv_at hl 3 rfl) ?_
            refine lv_if_eq (tgt := 129) hx hb dX13_readRoad_58 rfl (fun c9 => ?_) (fun c9 => ?_)
            · replace h := ite_t c9 h
              refine lv_aload_n hx hb dX13_readRoad_129 rfl (lv_at hl 0 rfl) ?_
              refine r_get (T := TX13) (v := .int (gI M8 y8_0 9)) hx hb hts in13 hown hK hP ky8_0 (by decide) rfl 9 (by decide) (hts (.fieldLink RX13 58 "StoneWalkModel" "sort" "I") (List.mem_of_getElem? (i := 2) (by decide +kernel))) rfl (t := 0) rfl rfl dX13_readRoad_130 ?_
              refine lv_iconst (v := 5) hx hb dX13_readRoad_133 rfl ?_
              refine lv_icmp_ne (tgt := 138) hx hb dX13_readRoad_134 rfl (fun c10 => ?_) (fun c10 => ?_)
              · replace h := ite_f c10 h
                refine lv_aload_n hx hb dX13_readRoad_138 rfl (lv_at hl 0 rfl) ?_
                rcases hN11 : gR M8 y8_0 4 with _ | b11
                · replace h := oc_n hN11 h
                  refine r_get (T := TX13) (v := .null) hx hb hts in13 hown hK hP ky8_0 (by decide) rfl 4 (by decide) (hts (.fieldLink RX13 150 "StoneWalkModel" "read" "LStoneWalkModel$Island;") (List.mem_of_getElem? (i := 1) (by decide +kernel))) rfl (t := 2) rfl (by show va_rf _ = _; rw [hN11]; rfl) dX13_readRoad_139 ?_
                  exact absurd h (by simp)
                · replace h := oc_s hN11 h
                  have kb11 := hT.f ky8_0 (k := 4) (t := 12) (n := 0) rfl hN11
                  refine r_get (T := TX13) (v := .ref (ad b11)) hx hb hts in13 hown hK hP ky8_0 (by decide) rfl 4 (by decide) (hts (.fieldLink RX13 150 "StoneWalkModel" "read" "LStoneWalkModel$Island;") (List.mem_of_getElem? (i := 1) (by decide +kernel))) rfl (t := 2) rfl (by show va_rf _ = _; rw [hN11]; rfl) dX13_readRoad_139 ?_
                  rcases hN12 : gR M8 b11 12 with _ | b12
                  · exact absurd (oc_n hN12 h) (by simp)
                  replace h := oc_s hN12 h
                  have kb12 := hT.f kb11 (k := 12) (t := 15) (n := 3) rfl hN12
                  refine r_getN (T := TX12) (v := .ref (ad b12)) hx hb hts in12 hown hK hP kb11 (by decide) rfl 12 (by decide) (hG.2.2.1 ("StoneWalkModel", 264, "StoneWalkModel$Island", "hollow", "[I", "StoneWalkModel") (List.mem_of_getElem? (i := 12) rfl)) rfl (t := 2) rfl (by show va_rf _ = _; rw [hN12]; rfl) dX13_readRoad_142 ?_
                  refine lv_aload_n hx hb dX13_readRoad_145 rfl (lv_at hl 0 rfl) ?_
                  rcases hN13 : gR M8 y8_0 4 with _ | b13
                  · replace h := oc_n hN13 h
                    refine r_get (T := TX13) (v := .null) hx hb hts in13 hown hK hP ky8_0 (by decide) rfl 4 (by decide) (hts (.fieldLink RX13 150 "StoneWalkModel" "read" "LStoneWalkModel$Island;") (List.mem_of_getElem? (i := 1) (by decide +kernel))) rfl (t := 2) rfl (by show va_rf _ = _; rw [hN13]; rfl) dX13_readRoad_146 ?_
                    exact absurd h (by simp)
                  · replace h := oc_s hN13 h
                    have kb13 := hT.f ky8_0 (k := 4) (t := 12) (n := 0) rfl hN13
                    refine r_get (T := TX13) (v := .ref (ad b13)) hx hb hts in13 hown hK hP ky8_0 (by decide) rfl 4 (by decide) (hts (.fieldLink RX13 150 "StoneWalkModel" "read" "LStoneWalkModel$Island;") (List.mem_of_getElem? (i := 1) (by decide +kernel))) rfl (t := 2) rfl (by show va_rf _ = _; rw [hN13]; rfl) dX13_readRoad_146 ?_
                    refine r_getN (T := TX12) (v := .int (gI M8 b13 1)) hx hb hts in12 hown hK hP kb13 (by decide) rfl 1 (by decide) (hG.2.2.1 ("StoneWalkModel", 188, "StoneWalkModel$Island", "roads", "I", "StoneWalkModel") (List.mem_of_getElem? (i := 6) rfl)) rfl (t := 0) rfl rfl dX13_readRoad_149 ?_
                    refine lv_iload_n hx hb dX13_readRoad_152 rfl (lv_at hl 1 rfl) ?_
                    obtain ⟨hn14, h⟩ := chk_some h
                    refine r_iast hx hb hK hP hD hT hS kb12 hn14 dX13_readRoad_153 (fun H locs hP hD hT hS => ?_)
                    generalize pI M8 b12 (ix (gI M8 b13 1)) y8_1 = Mg1 at h hP hD hT ⊢
                    refine lv_aload_n hx hb dX13_readRoad_154 rfl (lv_at hl 0 rfl) ?_
                    rcases hN15 : gR Mg1 y8_0 4 with _ | b15
                    · replace h := oc_n hN15 h
                      refine r_get (T := TX13) (v := .null) hx hb hts in13 hown hK hP ky8_0 (by decide) rfl 4 (by decide) (hts (.fieldLink RX13 150 "StoneWalkModel" "read" "LStoneWalkModel$Island;") (List.mem_of_getElem? (i := 1) (by decide +kernel))) rfl (t := 2) rfl (by show va_rf _ = _; rw [hN15]; rfl) dX13_readRoad_155 ?_
                      exact absurd h (by simp)
                    · replace h := oc_s hN15 h
                      have kb15 := hT.f ky8_0 (k := 4) (t := 12) (n := 0) rfl hN15
                      refine r_get (T := TX13) (v := .ref (ad b15)) hx hb hts in13 hown hK hP ky8_0 (by decide) rfl 4 (by decide) (hts (.fieldLink RX13 150 "StoneWalkModel" "read" "LStoneWalkModel$Island;") (List.mem_of_getElem? (i := 1) (by decide +kernel))) rfl (t := 2) rfl (by show va_rf _ = _; rw [hN15]; rfl) dX13_readRoad_155 ?_
                      rcases hN16 : gR Mg1 b15 13 with _ | b16
                      · exact absurd (oc_n hN16 h) (by simp)
                      replace h := oc_s hN16 h
                      have kb16 := hT.f kb15 (k := 13) (t := 15) (n := 3) rfl hN16
                      refine r_getN (T := TX12) (v := .ref (ad b16)) hx hb hts in12 hown hK hP kb15 (by decide) rfl 13 (by decide) (hG.2.2.1 ("StoneWalkModel", 266, "StoneWalkModel$Island", "slopes", "[I", "StoneWalkModel") (List.mem_of_getElem? (i := 13) rfl)) rfl (t := 2) rfl (by show va_rf _ = _; rw [hN16]; rfl) dX13_readRoad_158 ?_
                      refine lv_aload_n hx hb dX13_readRoad_161 rfl (lv_at hl 0 rfl) ?_
                      rcases hN17 : gR Mg1 y8_0 4 with _ | b17
                      · replace h := oc_n hN17 h
                        refine r_get (T := TX13) (v := .null) hx hb hts in13 hown hK hP ky8_0 (by decide) rfl 4 (by decide) (hts (.fieldLink RX13 150 "StoneWalkModel" "read" "LStoneWalkModel$Island;") (List.mem_of_getElem? (i := 1) (by decide +kernel))) rfl (t := 2) rfl (by show va_rf _ = _; rw [hN17]; rfl) dX13_readRoad_162 ?_
                        exact absurd h (by simp)
                      · replace h := oc_s hN17 h
                        have kb17 := hT.f ky8_0 (k := 4) (t := 12) (n := 0) rfl hN17
                        refine r_get (T := TX13) (v := .ref (ad b17)) hx hb hts in13 hown hK hP ky8_0 (by decide) rfl 4 (by decide) (hts (.fieldLink RX13 150 "StoneWalkModel" "read" "LStoneWalkModel$Island;") (List.mem_of_getElem? (i := 1) (by decide +kernel))) rfl (t := 2) rfl (by show va_rf _ = _; rw [hN17]; rfl) dX13_readRoad_162 ?_
                        refine r_getN (T := TX12) (v := .int (gI Mg1 b17 1)) hx hb hts in12 hown hK hP kb17 (by decide) rfl 1 (by decide) (hG.2.2.1 ("StoneWalkModel", 188, "StoneWalkModel$Island", "roads", "I", "StoneWalkModel") (List.mem_of_getElem? (i := 6) rfl)) rfl (t := 0) rfl rfl dX13_readRoad_165 ?_
                        refine lv_iload_n hx hb dX13_readRoad_168 rfl (lv_at hl 2 rfl) ?_
                        obtain ⟨hn18, h⟩ := chk_some h
                        refine r_iast hx hb hK hP hD hT hS kb16 hn18 dX13_readRoad_169 (fun H locs hP hD hT hS => ?_)
                        generalize pI Mg1 b16 (ix (gI Mg1 b17 1)) y8_2 = Mg2 at h hP hD hT ⊢
                        refine lv_aload_n hx hb dX13_readRoad_170 rfl (lv_at hl 0 rfl) ?_
                        rcases hN19 : gR Mg2 y8_0 4 with _ | b19
                        · replace h := oc_n hN19 h
                          refine r_get (T := TX13) (v := .null) hx hb hts in13 hown hK hP ky8_0 (by decide) rfl 4 (by decide) (hts (.fieldLink RX13 150 "StoneWalkModel" "read" "LStoneWalkModel$Island;") (List.mem_of_getElem? (i := 1) (by decide +kernel))) rfl (t := 2) rfl (by show va_rf _ = _; rw [hN19]; rfl) dX13_readRoad_171 ?_
                          refine lv_dup hx hb dX13_readRoad_174 rfl ?_
                          exact absurd h (by simp)
                        · replace h := oc_s hN19 h
                          have kb19 := hT.f ky8_0 (k := 4) (t := 12) (n := 0) rfl hN19
                          refine r_get (T := TX13) (v := .ref (ad b19)) hx hb hts in13 hown hK hP ky8_0 (by decide) rfl 4 (by decide) (hts (.fieldLink RX13 150 "StoneWalkModel" "read" "LStoneWalkModel$Island;") (List.mem_of_getElem? (i := 1) (by decide +kernel))) rfl (t := 2) rfl (by show va_rf _ = _; rw [hN19]; rfl) dX13_readRoad_171 ?_
                          refine lv_dup hx hb dX13_readRoad_174 rfl ?_
                          refine r_getN (T := TX12) (v := .int (gI Mg2 b19 1)) hx hb hts in12 hown hK hP kb19 (by decide) rfl 1 (by decide) (hG.2.2.1 ("StoneWalkModel", 188, "StoneWalkModel$Island", "roads", "I", "StoneWalkModel") (List.mem_of_getElem? (i := 6) rfl)) rfl (t := 0) rfl rfl dX13_readRoad_175 ?_
                          refine lv_iconst (v := 1) hx hb dX13_readRoad_178 rfl ?_
                          refine lv_iadd hx hb dX13_readRoad_179 ?_
                          refine r_putIN (T := TX12) (ty := .int) (v := (gI Mg2 b19 1) + 1) hx hb hts in12 tyX12 tyX12_ok nmX12 hown hK hP hD hT hS kb19 (by decide) rfl 1 (by decide) (hG.2.2.1 ("StoneWalkModel", 188, "StoneWalkModel$Island", "roads", "I", "StoneWalkModel") (List.mem_of_getElem? (i := 6) rfl)) rfl rfl (tyX12_ok 1 (by decide)) rfl rfl rfl dX13_readRoad_180 (fun H locs hP hD hT hS => ?_)
                          generalize pI Mg2 b19 1 ((gI Mg2 b19 1) + 1) = Mg3 at h hP hD hT ⊢
                          exact r_vret hx hb hr hlocks hP hK hD hT hG hS (Option.some.inj h) dX13_readRoad_183
              · replace h := ite_t c10 h
                exact r_vret hx hb hr hlocks hP hK hD hT hG hS (Option.some.inj h) dX13_readRoad_137
            · replace h := ite_f c9 h
              refine lv_iload_n hx hb dX13_readRoad_61 rfl (lv_at hl 2 rfl) ?_
              refine lv_bipush (v := 6) hx hb dX13_readRoad_62 rfl ?_
              refine lv_icmp_ne (tgt := 79) hx hb dX13_readRoad_64 rfl (fun c20 => ?_) (fun c20 => ?_)
              · replace h := ite_f c20 h
                refine lv_aload_n hx hb dX13_readRoad_79 rfl (lv_at hl 0 rfl) ?_
                obtain ⟨z21, h21, h⟩ := ob_some h
                refine k_i (va_runV (As := []) (rest := []) ⟨hx, hb, hml, hown, hts⟩ (c_X13_readSlope (l := l) M8 y8_0 ky8_0 h21) (cwV 0 hts gX13_readRoad_X13_readSlope rfl rfl rfl hdV_X13_readSlope ⟨Nat.le_of_ble_eq_true rfl, Nat.le_of_ble_eq_true rfl⟩) (pV (T := TX13) hP hK hD hT hG hS ky8_0 (by decide) rfl) rfl rfl hl.1 rfl (lv_room (Nat.le_of_ble_eq_true rfl)) dX13_readRoad_80 ⟨Nat.zero_le _, Nat.zero_le _⟩) hS (fun H locs hP hD hT hS => ?_)
                refine lv_istore (lv' := [(4, .int z21.1), (0, .ref (ad y8_0)), (1, .int y8_1), (2, .int y8_2), (3, .int y8_3)]) hx hb dX13_readRoad_83 hl (by decide) rfl (fun ls hl => ?_)
                refine lv_aload_n hx hb dX13_readRoad_85 rfl (lv_at hl 1 rfl) ?_
                refine r_get (T := TX13) (v := .int (gI z21.2 y8_0 9)) hx hb hts in13 hown hK hP ky8_0 (by decide) rfl 9 (by decide) (hts (.fieldLink RX13 58 "StoneWalkModel" "sort" "I") (List.mem_of_getElem? (i := 2) (by decide +kernel))) rfl (t := 0) rfl rfl dX13_readRoad_86 ?_
                refine lv_iconst (v := 5) hx hb dX13_readRoad_89 rfl ?_
                refine lv_icmp_ne (tgt := 94) hx hb dX13_readRoad_90 rfl (fun c22 => ?_) (fun c22 => ?_)
                · replace h := ite_f c22 h
                  refine lv_aload_n hx hb dX13_readRoad_94 rfl (lv_at hl 1 rfl) ?_
                  rcases hN23 : gR z21.2 y8_0 4 with _ | b23
                  · replace h := oc_n hN23 h
                    refine r_get (T := TX13) (v := .null) hx hb hts in13 hown hK hP ky8_0 (by decide) rfl 4 (by decide) (hts (.fieldLink RX13 150 "StoneWalkModel" "read" "LStoneWalkModel$Island;") (List.mem_of_getElem? (i := 1) (by decide +kernel))) rfl (t := 2) rfl (by show va_rf _ = _; rw [hN23]; rfl) dX13_readRoad_95 ?_
                    exact absurd h (by simp)
                  · replace h := oc_s hN23 h
                    have kb23 := hT.f ky8_0 (k := 4) (t := 12) (n := 0) rfl hN23
                    refine r_get (T := TX13) (v := .ref (ad b23)) hx hb hts in13 hown hK hP ky8_0 (by decide) rfl 4 (by decide) (hts (.fieldLink RX13 150 "StoneWalkModel" "read" "LStoneWalkModel$Island;") (List.mem_of_getElem? (i := 1) (by decide +kernel))) rfl (t := 2) rfl (by show va_rf _ = _; rw [hN23]; rfl) dX13_readRoad_95 ?_
                    rcases hN24 : gR z21.2 b23 14 with _ | b24
                    · exact absurd (oc_n hN24 h) (by simp)
                    replace h := oc_s hN24 h
                    have kb24 := hT.f kb23 (k := 14) (t := 15) (n := 18) rfl hN24
                    refine r_getN (T := TX12) (v := .ref (ad b24)) hx hb hts in12 hown hK hP kb23 (by decide) rfl 14 (by decide) (hG.2.2.1 ("StoneWalkModel", 261, "StoneWalkModel$Island", "slope", "[I", "StoneWalkModel") (List.mem_of_getElem? (i := 11) rfl)) rfl (t := 2) rfl (by show va_rf _ = _; rw [hN24]; rfl) dX13_readRoad_98 ?_
                    refine lv_bipush (v := 6) hx hb dX13_readRoad_101 rfl ?_
                    refine lv_aload_n hx hb dX13_readRoad_103 rfl (lv_at hl 1 rfl) ?_
                    rcases hN25 : gR z21.2 y8_0 4 with _ | b25
                    · replace h := oc_n hN25 h
                      refine r_get (T := TX13) (v := .null) hx hb hts in13 hown hK hP ky8_0 (by decide) rfl 4 (by decide) (hts (.fieldLink RX13 150 "StoneWalkModel" "read" "LStoneWalkModel$Island;") (List.mem_of_getElem? (i := 1) (by decide +kernel))) rfl (t := 2) rfl (by show va_rf _ = _; rw [hN25]; rfl) dX13_readRoad_104 ?_
                      exact absurd h (by simp)
                    · replace h := oc_s hN25 h
                      have kb25 := hT.f ky8_0 (k := 4) (t := 12) (n := 0) rfl hN25
                      refine r_get (T := TX13) (v := .ref (ad b25)) hx hb hts in13 hown hK hP ky8_0 (by decide) rfl 4 (by decide) (hts (.fieldLink RX13 150 "StoneWalkModel" "read" "LStoneWalkModel$Island;") (List.mem_of_getElem? (i := 1) (by decide +kernel))) rfl (t := 2) rfl (by show va_rf _ = _; rw [hN25]; rfl) dX13_readRoad_104 ?_
                      refine r_getN (T := TX12) (v := .int (gI z21.2 b25 1)) hx hb hts in12 hown hK hP kb25 (by decide) rfl 1 (by decide) (hG.2.2.1 ("StoneWalkModel", 188, "StoneWalkModel$Island", "roads", "I", "StoneWalkModel") (List.mem_of_getElem? (i := 6) rfl)) rfl (t := 0) rfl rfl dX13_readRoad_107 ?_
                      refine lv_imul hx hb dX13_readRoad_110 ?_
                      refine lv_iload_n hx hb dX13_readRoad_111 rfl (lv_at hl 3 rfl) ?_
                      refine lv_iadd hx hb dX13_readRoad_112 ?_
                      refine lv_iload hx hb dX13_readRoad_113 (lv_at hl 0 rfl) ?_
                      obtain ⟨hn26, h⟩ := chk_some h
                      refine r_iast hx hb hK hP hD hT hS kb24 hn26 dX13_readRoad_115 (fun H locs hP hD hT hS => ?_)
                      generalize pI z21.2 b24 (ix ((6 * (gI z21.2 b25 1)) + y8_2)) z21.1 = Mg4 at h hP hD hT ⊢
                      refine lv_iinc (v := y8_2 + 1) (lv' := [(2, .int (y8_2 + 1)), (4, .int z21.1), (0, .ref (ad y8_0)), (1, .int y8_1), (3, .int y8_3)]) hx hb dX13_readRoad_116 hl (k := 3) rfl rfl (by decide) rfl (fun ls hl => ?_)
                      refine lv_aload_n hx hb dX13_readRoad_119 rfl (lv_at hl 2 rfl) ?_
                      refine lv_bipush (v := 44) hx hb dX13_readRoad_120 rfl ?_
                      obtain ⟨z27, h27, h⟩ := ob_some h
                      refine k_z (va_runV (As := [.int 44]) (rest := []) ⟨hx, hb, hml, hown, hts⟩ (c_X13_eatsSign (l := l) Mg4 y8_0 44 ky8_0 h27) (cwV 1 hts gX13_readRoad_X13_eatsSign rfl rfl rfl hdV_X13_eatsSign ⟨Nat.le_of_ble_eq_true rfl, Nat.le_of_ble_eq_true rfl⟩) (pV (T := TX13) hP hK hD hT hG hS ky8_0 (by decide) rfl) rfl rfl hl.1 rfl (lv_room (Nat.le_of_ble_eq_true rfl)) dX13_readRoad_122 ⟨Nat.zero_le _, Nat.zero_le _⟩) hS (fun H locs hz27 hP hD hT hS => ?_)
                      refine lv_istore_n (lv' := [(3, .int z27.1), (2, .int (y8_2 + 1)), (4, .int z21.1), (0, .ref (ad y8_0)), (1, .int y8_1)]) hx hb dX13_readRoad_125 rfl hl (by decide) rfl (fun ls hl => ?_)
                      refine lv_goto (tgt := 57) hx hb dX13_readRoad_126 rfl ?_
                      exact ih8 z27.2 y8_0 y8_1 (y8_2 + 1) z27.1 ky8_0 _ _ h hP hD hT hS ls (lv_sub hl [3, 4, 1, 0] rfl)
                · replace h := ite_t c22 h
                  exact r_vret hx hb hr hlocks hP hK hD hT hG hS (Option.some.inj h) dX13_readRoad_93
              · replace h := ite_t c20 h
                refine lv_aload_n hx hb dX13_readRoad_67 rfl (lv_at hl 0 rfl) ?_
                obtain ⟨z28, h28, h⟩ := ob_some h
                refine k_z (va_runV (As := []) (rest := []) ⟨hx, hb, hml, hown, hts⟩ (c_X13_isSlope (l := l) M8 y8_0 ky8_0 h28) (cwV 0 hts gX13_readRoad_X13_isSlope rfl rfl rfl hdV_X13_isSlope ⟨Nat.le_of_ble_eq_true rfl, Nat.le_of_ble_eq_true rfl⟩) (pV (T := TX13) hP hK hD hT hG hS ky8_0 (by decide) rfl) rfl rfl hl.1 rfl (lv_room (Nat.le_of_ble_eq_true rfl)) dX13_readRoad_68 ⟨Nat.zero_le _, Nat.zero_le _⟩) hS (fun H locs hz28 hP hD hT hS => ?_)
                refine lv_if_eq (tgt := 79) hx hb dX13_readRoad_71 rfl (fun c29 => ?_) (fun c29 => ?_)
                · replace h := ite_t c29 h
                  refine lv_aload_n hx hb dX13_readRoad_79 rfl (lv_at hl 0 rfl) ?_
                  obtain ⟨z30, h30, h⟩ := ob_some h
                  refine k_i (va_runV (As := []) (rest := []) ⟨hx, hb, hml, hown, hts⟩ (c_X13_readSlope (l := l) M8 y8_0 ky8_0 h30) (cwV 0 hts gX13_readRoad_X13_readSlope rfl rfl rfl hdV_X13_readSlope ⟨Nat.le_of_ble_eq_true rfl, Nat.le_of_ble_eq_true rfl⟩) (pV (T := TX13) hP hK hD hT hG hS ky8_0 (by decide) rfl) rfl rfl hl.1 rfl (lv_room (Nat.le_of_ble_eq_true rfl)) dX13_readRoad_80 ⟨Nat.zero_le _, Nat.zero_le _⟩) hS (fun H locs hP hD hT hS => ?_)
                  refine lv_istore (lv' := [(4, .int z30.1), (0, .ref (ad y8_0)), (1, .int y8_1), (2, .int y8_2), (3, .int y8_3)]) hx hb dX13_readRoad_83 hl (by decide) rfl (fun ls hl => ?_)
                  refine lv_aload_n hx hb dX13_readRoad_85 rfl (lv_at hl 1 rfl) ?_
                  refine r_get (T := TX13) (v := .int (gI z30.2 y8_0 9)) hx hb hts in13 hown hK hP ky8_0 (by decide) rfl 9 (by decide) (hts (.fieldLink RX13 58 "StoneWalkModel" "sort" "I") (List.mem_of_getElem? (i := 2) (by decide +kernel))) rfl (t := 0) rfl rfl dX13_readRoad_86 ?_
                  refine lv_iconst (v := 5) hx hb dX13_readRoad_89 rfl ?_
                  refine lv_icmp_ne (tgt := 94) hx hb dX13_readRoad_90 rfl (fun c31 => ?_) (fun c31 => ?_)
                  · replace h := ite_f c31 h
                    refine lv_aload_n hx hb dX13_readRoad_94 rfl (lv_at hl 1 rfl) ?_
                    rcases hN32 : gR z30.2 y8_0 4 with _ | b32
                    · replace h := oc_n hN32 h
                      refine r_get (T := TX13) (v := .null) hx hb hts in13 hown hK hP ky8_0 (by decide) rfl 4 (by decide) (hts (.fieldLink RX13 150 "StoneWalkModel" "read" "LStoneWalkModel$Island;") (List.mem_of_getElem? (i := 1) (by decide +kernel))) rfl (t := 2) rfl (by show va_rf _ = _; rw [hN32]; rfl) dX13_readRoad_95 ?_
                      exact absurd h (by simp)
                    · replace h := oc_s hN32 h
                      have kb32 := hT.f ky8_0 (k := 4) (t := 12) (n := 0) rfl hN32
                      refine r_get (T := TX13) (v := .ref (ad b32)) hx hb hts in13 hown hK hP ky8_0 (by decide) rfl 4 (by decide) (hts (.fieldLink RX13 150 "StoneWalkModel" "read" "LStoneWalkModel$Island;") (List.mem_of_getElem? (i := 1) (by decide +kernel))) rfl (t := 2) rfl (by show va_rf _ = _; rw [hN32]; rfl) dX13_readRoad_95 ?_
                      rcases hN33 : gR z30.2 b32 14 with _ | b33
                      · exact absurd (oc_n hN33 h) (by simp)
                      replace h := oc_s hN33 h
                      have kb33 := hT.f kb32 (k := 14) (t := 15) (n := 18) rfl hN33
                      refine r_getN (T := TX12) (v := .ref (ad b33)) hx hb hts in12 hown hK hP kb32 (by decide) rfl 14 (by decide) (hG.2.2.1 ("StoneWalkModel", 261, "StoneWalkModel$Island", "slope", "[I", "StoneWalkModel") (List.mem_of_getElem? (i := 11) rfl)) rfl (t := 2) rfl (by show va_rf _ = _; rw [hN33]; rfl) dX13_readRoad_98 ?_
                      refine lv_bipush (v := 6) hx hb dX13_readRoad_101 rfl ?_
                      refine lv_aload_n hx hb dX13_readRoad_103 rfl (lv_at hl 1 rfl) ?_
                      rcases hN34 : gR z30.2 y8_0 4 with _ | b34
                      · replace h := oc_n hN34 h
                        refine r_get (T := TX13) (v := .null) hx hb hts in13 hown hK hP ky8_0 (by decide) rfl 4 (by decide) (hts (.fieldLink RX13 150 "StoneWalkModel" "read" "LStoneWalkModel$Island;") (List.mem_of_getElem? (i := 1) (by decide +kernel))) rfl (t := 2) rfl (by show va_rf _ = _; rw [hN34]; rfl) dX13_readRoad_104 ?_
                        exact absurd h (by simp)
                      · replace h := oc_s hN34 h
                        have kb34 := hT.f ky8_0 (k := 4) (t := 12) (n := 0) rfl hN34
                        refine r_get (T := TX13) (v := .ref (ad b34)) hx hb hts in13 hown hK hP ky8_0 (by decide) rfl 4 (by decide) (hts (.fieldLink RX13 150 "StoneWalkModel" "read" "LStoneWalkModel$Island;") (List.mem_of_getElem? (i := 1) (by decide +kernel))) rfl (t := 2) rfl (by show va_rf _ = _; rw [hN34]; rfl) dX13_readRoad_104 ?_
                        refine r_getN (T := TX12) (v := .int (gI z30.2 b34 1)) hx hb hts in12 hown hK hP kb34 (by decide) rfl 1 (by decide) (hG.2.2.1 ("StoneWalkModel", 188, "StoneWalkModel$Island", "roads", "I", "StoneWalkModel") (List.mem_of_getElem? (i := 6) rfl)) rfl (t := 0) rfl rfl dX13_readRoad_107 ?_
                        refine lv_imul hx hb dX13_readRoad_110 ?_
                        refine lv_iload_n hx hb dX13_readRoad_111 rfl (lv_at hl 3 rfl) ?_
                        refine lv_iadd hx hb dX13_readRoad_112 ?_
                        refine lv_iload hx hb dX13_readRoad_113 (lv_at hl 0 rfl) ?_
                        obtain ⟨hn35, h⟩ := chk_some h
                        refine r_iast hx hb hK hP hD hT hS kb33 hn35 dX13_readRoad_115 (fun H locs hP hD hT hS => ?_)
                        generalize pI z30.2 b33 (ix ((6 * (gI z30.2 b34 1)) + y8_2)) z30.1 = Mg5 at h hP hD hT ⊢
                        refine lv_iinc (v := y8_2 + 1) (lv' := [(2, .int (y8_2 + 1)), (4, .int z30.1), (0, .ref (ad y8_0)), (1, .int y8_1), (3, .int y8_3)]) hx hb dX13_readRoad_116 hl (k := 3) rfl rfl (by decide) rfl (fun ls hl => ?_)
                        refine lv_aload_n hx hb dX13_readRoad_119 rfl (lv_at hl 2 rfl) ?_
                        refine lv_bipush (v := 44) hx hb dX13_readRoad_120 rfl ?_
                        obtain ⟨z36, h36, h⟩ := ob_some h
                        refine k_z (va_runV (As := [.int 44]) (rest := []) ⟨hx, hb, hml, hown, hts⟩ (c_X13_eatsSign (l := l) Mg5 y8_0 44 ky8_0 h36) (cwV 1 hts gX13_readRoad_X13_eatsSign rfl rfl rfl hdV_X13_eatsSign ⟨Nat.le_of_ble_eq_true rfl, Nat.le_of_ble_eq_true rfl⟩) (pV (T := TX13) hP hK hD hT hG hS ky8_0 (by decide) rfl) rfl rfl hl.1 rfl (lv_room (Nat.le_of_ble_eq_true rfl)) dX13_readRoad_122 ⟨Nat.zero_le _, Nat.zero_le _⟩) hS (fun H locs hz36 hP hD hT hS => ?_)
                        refine lv_istore_n (lv' := [(3, .int z36.1), (2, .int (y8_2 + 1)), (4, .int z30.1), (0, .ref (ad y8_0)), (1, .int y8_1)]) hx hb dX13_readRoad_125 rfl hl (by decide) rfl (fun ls hl => ?_)
                        refine lv_goto (tgt := 57) hx hb dX13_readRoad_126 rfl ?_
                        exact ih8 z36.2 y8_0 y8_1 (y8_2 + 1) z36.1 ky8_0 _ _ h hP hD hT hS ls (lv_sub hl [3, 4, 1, 0] rfl)
                  · replace h := ite_t c31 h
                    exact r_vret hx hb hr hlocks hP hK hD hT hG hS (Option.some.inj h) dX13_readRoad_93
                · replace h := ite_f c29 h
                  refine lv_aload_n hx hb dX13_readRoad_74 rfl (lv_at hl 0 rfl) ?_
                  refine lv_iconst (v := 5) hx hb dX13_readRoad_75 rfl ?_
                  obtain ⟨z37, h37, h⟩ := ob_some h
                  refine k_v (va_runV (As := [.int 5]) (rest := []) ⟨hx, hb, hml, hown, hts⟩ (c_X13_wrong (l := l) M8 y8_0 5 ky8_0 h37) (cwV 1 hts gX13_readRoad_X13_wrong rfl rfl rfl hdV_X13_wrong ⟨Nat.le_of_ble_eq_true rfl, Nat.le_of_ble_eq_true rfl⟩) (pV (T := TX13) hP hK hD hT hG hS ky8_0 (by decide) rfl) rfl rfl hl.1 rfl (lv_room (Nat.le_of_ble_eq_true rfl)) dX13_readRoad_76 ⟨Nat.zero_le _, Nat.zero_le _⟩) hS (fun H locs hP hD hT hS => ?_)
                  refine lv_aload_n hx hb dX13_readRoad_79 rfl (lv_at hl 0 rfl) ?_
                  obtain ⟨z38, h38, h⟩ := ob_some h
                  refine k_i (va_runV (As := []) (rest := []) ⟨hx, hb, hml, hown, hts⟩ (c_X13_readSlope (l := l) z37 y8_0 ky8_0 h38) (cwV 0 hts gX13_readRoad_X13_readSlope rfl rfl rfl hdV_X13_readSlope ⟨Nat.le_of_ble_eq_true rfl, Nat.le_of_ble_eq_true rfl⟩) (pV (T := TX13) hP hK hD hT hG hS ky8_0 (by decide) rfl) rfl rfl hl.1 rfl (lv_room (Nat.le_of_ble_eq_true rfl)) dX13_readRoad_80 ⟨Nat.zero_le _, Nat.zero_le _⟩) hS (fun H locs hP hD hT hS => ?_)
                  refine lv_istore (lv' := [(4, .int z38.1), (0, .ref (ad y8_0)), (1, .int y8_1), (2, .int y8_2), (3, .int y8_3)]) hx hb dX13_readRoad_83 hl (by decide) rfl (fun ls hl => ?_)
                  refine lv_aload_n hx hb dX13_readRoad_85 rfl (lv_at hl 1 rfl) ?_
                  refine r_get (T := TX13) (v := .int (gI z38.2 y8_0 9)) hx hb hts in13 hown hK hP ky8_0 (by decide) rfl 9 (by decide) (hts (.fieldLink RX13 58 "StoneWalkModel" "sort" "I") (List.mem_of_getElem? (i := 2) (by decide +kernel))) rfl (t := 0) rfl rfl dX13_readRoad_86 ?_
                  refine lv_iconst (v := 5) hx hb dX13_readRoad_89 rfl ?_
                  refine lv_icmp_ne (tgt := 94) hx hb dX13_readRoad_90 rfl (fun c39 => ?_) (fun c39 => ?_)
                  · replace h := ite_f c39 h
                    refine lv_aload_n hx hb dX13_readRoad_94 rfl (lv_at hl 1 rfl) ?_
                    rcases hN40 : gR z38.2 y8_0 4 with _ | b40
                    · replace h := oc_n hN40 h
                      refine r_get (T := TX13) (v := .null) hx hb hts in13 hown hK hP ky8_0 (by decide) rfl 4 (by decide) (hts (.fieldLink RX13 150 "StoneWalkModel" "read" "LStoneWalkModel$Island;") (List.mem_of_getElem? (i := 1) (by decide +kernel))) rfl (t := 2) rfl (by show va_rf _ = _; rw [hN40]; rfl) dX13_readRoad_95 ?_
                      exact absurd h (by simp)
                    · replace h := oc_s hN40 h
                      have kb40 := hT.f ky8_0 (k := 4) (t := 12) (n := 0) rfl hN40
                      refine r_get (T := TX13) (v := .ref (ad b40)) hx hb hts in13 hown hK hP ky8_0 (by decide) rfl 4 (by decide) (hts (.fieldLink RX13 150 "StoneWalkModel" "read" "LStoneWalkModel$Island;") (List.mem_of_getElem? (i := 1) (by decide +kernel))) rfl (t := 2) rfl (by show va_rf _ = _; rw [hN40]; rfl) dX13_readRoad_95 ?_
                      rcases hN41 : gR z38.2 b40 14 with _ | b41
                      · exact absurd (oc_n hN41 h) (by simp)
                      replace h := oc_s hN41 h
                      have kb41 := hT.f kb40 (k := 14) (t := 15) (n := 18) rfl hN41
                      refine r_getN (T := TX12) (v := .ref (ad b41)) hx hb hts in12 hown hK hP kb40 (by decide) rfl 14 (by decide) (hG.2.2.1 ("StoneWalkModel", 261, "StoneWalkModel$Island", "slope", "[I", "StoneWalkModel") (List.mem_of_getElem? (i := 11) rfl)) rfl (t := 2) rfl (by show va_rf _ = _; rw [hN41]; rfl) dX13_readRoad_98 ?_
                      refine lv_bipush (v := 6) hx hb dX13_readRoad_101 rfl ?_
                      refine lv_aload_n hx hb dX13_readRoad_103 rfl (lv_at hl 1 rfl) ?_
                      rcases hN42 : gR z38.2 y8_0 4 with _ | b42
                      · replace h := oc_n hN42 h
                        refine r_get (T := TX13) (v := .null) hx hb hts in13 hown hK hP ky8_0 (by decide) rfl 4 (by decide) (hts (.fieldLink RX13 150 "StoneWalkModel" "read" "LStoneWalkModel$Island;") (List.mem_of_getElem? (i := 1) (by decide +kernel))) rfl (t := 2) rfl (by show va_rf _ = _; rw [hN42]; rfl) dX13_readRoad_104 ?_
                        exact absurd h (by simp)
                      · replace h := oc_s hN42 h
                        have kb42 := hT.f ky8_0 (k := 4) (t := 12) (n := 0) rfl hN42
                        refine r_get (T := TX13) (v := .ref (ad b42)) hx hb hts in13 hown hK hP ky8_0 (by decide) rfl 4 (by decide) (hts (.fieldLink RX13 150 "StoneWalkModel" "read" "LStoneWalkModel$Island;") (List.mem_of_getElem? (i := 1) (by decide +kernel))) rfl (t := 2) rfl (by show va_rf _ = _; rw [hN42]; rfl) dX13_readRoad_104 ?_
                        refine r_getN (T := TX12) (v := .int (gI z38.2 b42 1)) hx hb hts in12 hown hK hP kb42 (by decide) rfl 1 (by decide) (hG.2.2.1 ("StoneWalkModel", 188, "StoneWalkModel$Island", "roads", "I", "StoneWalkModel") (List.mem_of_getElem? (i := 6) rfl)) rfl (t := 0) rfl rfl dX13_readRoad_107 ?_
                        refine lv_imul hx hb dX13_readRoad_110 ?_
                        refine lv_iload_n hx hb dX13_readRoad_111 rfl (lv_at hl 3 rfl) ?_
                        refine lv_iadd hx hb dX13_readRoad_112 ?_
                        refine lv_iload hx hb dX13_readRoad_113 (lv_at hl 0 rfl) ?_
                        obtain ⟨hn43, h⟩ := chk_some h
                        refine r_iast hx hb hK hP hD hT hS kb41 hn43 dX13_readRoad_115 (fun H locs hP hD hT hS => ?_)
                        generalize pI z38.2 b41 (ix ((6 * (gI z38.2 b42 1)) + y8_2)) z38.1 = Mg6 at h hP hD hT ⊢
                        refine lv_iinc (v := y8_2 + 1) (lv' := [(2, .int (y8_2 + 1)), (4, .int z38.1), (0, .ref (ad y8_0)), (1, .int y8_1), (3, .int y8_3)]) hx hb dX13_readRoad_116 hl (k := 3) rfl rfl (by decide) rfl (fun ls hl => ?_)
                        refine lv_aload_n hx hb dX13_readRoad_119 rfl (lv_at hl 2 rfl) ?_
                        refine lv_bipush (v := 44) hx hb dX13_readRoad_120 rfl ?_
                        obtain ⟨z44, h44, h⟩ := ob_some h
                        refine k_z (va_runV (As := [.int 44]) (rest := []) ⟨hx, hb, hml, hown, hts⟩ (c_X13_eatsSign (l := l) Mg6 y8_0 44 ky8_0 h44) (cwV 1 hts gX13_readRoad_X13_eatsSign rfl rfl rfl hdV_X13_eatsSign ⟨Nat.le_of_ble_eq_true rfl, Nat.le_of_ble_eq_true rfl⟩) (pV (T := TX13) hP hK hD hT hG hS ky8_0 (by decide) rfl) rfl rfl hl.1 rfl (lv_room (Nat.le_of_ble_eq_true rfl)) dX13_readRoad_122 ⟨Nat.zero_le _, Nat.zero_le _⟩) hS (fun H locs hz44 hP hD hT hS => ?_)
                        refine lv_istore_n (lv' := [(3, .int z44.1), (2, .int (y8_2 + 1)), (4, .int z38.1), (0, .ref (ad y8_0)), (1, .int y8_1)]) hx hb dX13_readRoad_125 rfl hl (by decide) rfl (fun ls hl => ?_)
                        refine lv_goto (tgt := 57) hx hb dX13_readRoad_126 rfl ?_
                        exact ih8 z44.2 y8_0 y8_1 (y8_2 + 1) z44.1 ky8_0 _ _ h hP hD hT hS ls (lv_sub hl [3, 4, 1, 0] rfl)
                  · replace h := ite_t c39 h
                    exact r_vret hx hb hr hlocks hP hK hD hT hG hS (Option.some.inj h) dX13_readRoad_93
        exact L8 FU z6 a0 z5.1 0 0 k0 _ _ h hP hD hT hS ls (lv_sub hl [3, 2, 1, 0] rfl)
      · replace h := ite_f c7 h
        refine lv_iconst (v := 1) hx hb dX13_readRoad_51 rfl ?_
        refine lv_goto (tgt := 56) hx hb dX13_readRoad_52 rfl ?_
        refine lv_istore_n (lv' := [(3, .int 1), (2, .int 0), (1, .int z5.1), (0, .ref (ad a0))]) hx hb dX13_readRoad_56 rfl hl (by decide) rfl (fun ls hl => ?_)
        have L45 : ∀ n45 : Nat, ∀ (M45 : MM) (y45_0 : Nat) (y45_1 : Int32) (y45_2 : Int32) (y45_3 : Int32) (ky45_0 : ok g y45_0 13 0) (H : Heap) (locs : List Loc), f_X13_readRoad_L57_1 n45 M45 y45_0 y45_1 y45_2 y45_3 = some Z → va_P D vwCl (wd ad cy g M45) H → va_D A (wd ad cy g M45) → WT g M45 → va_S A s.heap H locs → ∀ (ls : Array Slot), lv_has ls 5 [(0, .ref (ad y45_0)), (1, .int y45_1), (2, .int y45_2), (3, .int y45_3)] → W p l e ((headSpec wsX13_readRoad ({ frames := 8, cells := 0, slots := 0, locals := 173 })).room) s m (([.ref (ad a0)] : List Value).toArray) below meth c H locs 0 0 (MQ below (va_Qv (fun u => u = Z) (Wd D ad cy A g q) A) ([.ref (ad a0)]).toArray s 0 0 A) (F0 m 57 ls []) := by
          intro n45
          induction n45 with
          | zero => intro M45 y45_0 y45_1 y45_2 y45_3 ky45_0 H locs h; exact absurd h (by simp [f_X13_readRoad_L57_1])
          | succ n45 ih45 =>
            intro M45 y45_0 y45_1 y45_2 y45_3 ky45_0 H locs h hP hD hT hS ls hl
            rw [f_X13_readRoad_L57_1] at h
            refine lv_iload_n hx hb dX13_readRoad_57 rfl (lv_at hl 3 rfl) ?_
            refine lv_if_eq (tgt := 129) hx hb dX13_readRoad_58 rfl (fun c46 => ?_) (fun c46 => ?_)
            · replace h := ite_t c46 h
              refine lv_aload_n hx hb dX13_readRoad_129 rfl (lv_at hl 0 rfl) ?_
              refine r_get (T := TX13) (v := .int (gI M45 y45_0 9)) hx hb hts in13 hown hK hP ky45_0 (by decide) rfl 9 (by decide) (hts (.fieldLink RX13 58 "StoneWalkModel" "sort" "I") (List.mem_of_getElem? (i := 2) (by decide +kernel))) rfl (t := 0) rfl rfl dX13_readRoad_130 ?_
              refine lv_iconst (v := 5) hx hb dX13_readRoad_133 rfl ?_
              refine lv_icmp_ne (tgt := 138) hx hb dX13_readRoad_134 rfl (fun c47 => ?_) (fun c47 => ?_)
              · replace h := ite_f c47 h
                refine lv_aload_n hx hb dX13_readRoad_138 rfl (lv_at hl 0 rfl) ?_
                rcases hN48 : gR M45 y45_0 4 with _ | b48
                · replace h := oc_n hN48 h
                  refine r_get (T := TX13) (v := .null) hx hb hts in13 hown hK hP ky45_0 (by decide) rfl 4 (by decide) (hts (.fieldLink RX13 150 "StoneWalkModel" "read" "LStoneWalkModel$Island;") (List.mem_of_getElem? (i := 1) (by decide +kernel))) rfl (t := 2) rfl (by show va_rf _ = _; rw [hN48]; rfl) dX13_readRoad_139 ?_
                  exact absurd h (by simp)
                · replace h := oc_s hN48 h
                  have kb48 := hT.f ky45_0 (k := 4) (t := 12) (n := 0) rfl hN48
                  refine r_get (T := TX13) (v := .ref (ad b48)) hx hb hts in13 hown hK hP ky45_0 (by decide) rfl 4 (by decide) (hts (.fieldLink RX13 150 "StoneWalkModel" "read" "LStoneWalkModel$Island;") (List.mem_of_getElem? (i := 1) (by decide +kernel))) rfl (t := 2) rfl (by show va_rf _ = _; rw [hN48]; rfl) dX13_readRoad_139 ?_
                  rcases hN49 : gR M45 b48 12 with _ | b49
                  · exact absurd (oc_n hN49 h) (by simp)
                  replace h := oc_s hN49 h
                  have kb49 := hT.f kb48 (k := 12) (t := 15) (n := 3) rfl hN49
                  refine r_getN (T := TX12) (v := .ref (ad b49)) hx hb hts in12 hown hK hP kb48 (by decide) rfl 12 (by decide) (hG.2.2.1 ("StoneWalkModel", 264, "StoneWalkModel$Island", "hollow", "[I", "StoneWalkModel") (List.mem_of_getElem? (i := 12) rfl)) rfl (t := 2) rfl (by show va_rf _ = _; rw [hN49]; rfl) dX13_readRoad_142 ?_
                  refine lv_aload_n hx hb dX13_readRoad_145 rfl (lv_at hl 0 rfl) ?_
                  rcases hN50 : gR M45 y45_0 4 with _ | b50
                  · replace h := oc_n hN50 h
                    refine r_get (T := TX13) (v := .null) hx hb hts in13 hown hK hP ky45_0 (by decide) rfl 4 (by decide) (hts (.fieldLink RX13 150 "StoneWalkModel" "read" "LStoneWalkModel$Island;") (List.mem_of_getElem? (i := 1) (by decide +kernel))) rfl (t := 2) rfl (by show va_rf _ = _; rw [hN50]; rfl) dX13_readRoad_146 ?_
                    exact absurd h (by simp)
                  · replace h := oc_s hN50 h
                    have kb50 := hT.f ky45_0 (k := 4) (t := 12) (n := 0) rfl hN50
                    refine r_get (T := TX13) (v := .ref (ad b50)) hx hb hts in13 hown hK hP ky45_0 (by decide) rfl 4 (by decide) (hts (.fieldLink RX13 150 "StoneWalkModel" "read" "LStoneWalkModel$Island;") (List.mem_of_getElem? (i := 1) (by decide +kernel))) rfl (t := 2) rfl (by show va_rf _ = _; rw [hN50]; rfl) dX13_readRoad_146 ?_
                    refine r_getN (T := TX12) (v := .int (gI M45 b50 1)) hx hb hts in12 hown hK hP kb50 (by decide) rfl 1 (by decide) (hG.2.2.1 ("StoneWalkModel", 188, "StoneWalkModel$Island", "roads", "I", "StoneWalkModel") (List.mem_of_getElem? (i := 6) rfl)) rfl (t := 0) rfl rfl dX13_readRoad_149 ?_
                    refine lv_iload_n hx hb dX13_readRoad_152 rfl (lv_at hl 1 rfl) ?_
                    obtain ⟨hn51, h⟩ := chk_some h
                    refine r_iast hx hb hK hP hD hT hS kb49 hn51 dX13_readRoad_153 (fun H locs hP hD hT hS => ?_)
                    generalize pI M45 b49 (ix (gI M45 b50 1)) y45_1 = Mg7 at h hP hD hT ⊢
                    refine lv_aload_n hx hb dX13_readRoad_154 rfl (lv_at hl 0 rfl) ?_
                    rcases hN52 : gR Mg7 y45_0 4 with _ | b52
                    · replace h := oc_n hN52 h
                      refine r_get (T := TX13) (v := .null) hx hb hts in13 hown hK hP ky45_0 (by decide) rfl 4 (by decide) (hts (.fieldLink RX13 150 "StoneWalkModel" "read" "LStoneWalkModel$Island;") (List.mem_of_getElem? (i := 1) (by decide +kernel))) rfl (t := 2) rfl (by show va_rf _ = _; rw [hN52]; rfl) dX13_readRoad_155 ?_
                      exact absurd h (by simp)
                    · replace h := oc_s hN52 h
                      have kb52 := hT.f ky45_0 (k := 4) (t := 12) (n := 0) rfl hN52
                      refine r_get (T := TX13) (v := .ref (ad b52)) hx hb hts in13 hown hK hP ky45_0 (by decide) rfl 4 (by decide) (hts (.fieldLink RX13 150 "StoneWalkModel" "read" "LStoneWalkModel$Island;") (List.mem_of_getElem? (i := 1) (by decide +kernel))) rfl (t := 2) rfl (by show va_rf _ = _; rw [hN52]; rfl) dX13_readRoad_155 ?_
                      rcases hN53 : gR Mg7 b52 13 with _ | b53
                      · exact absurd (oc_n hN53 h) (by simp)
                      replace h := oc_s hN53 h
                      have kb53 := hT.f kb52 (k := 13) (t := 15) (n := 3) rfl hN53
                      refine r_getN (T := TX12) (v := .ref (ad b53)) hx hb hts in12 hown hK hP kb52 (by decide) rfl 13 (by decide) (hG.2.2.1 ("StoneWalkModel", 266, "StoneWalkModel$Island", "slopes", "[I", "StoneWalkModel") (List.mem_of_getElem? (i := 13) rfl)) rfl (t := 2) rfl (by show va_rf _ = _; rw [hN53]; rfl) dX13_readRoad_158 ?_
                      refine lv_aload_n hx hb dX13_readRoad_161 rfl (lv_at hl 0 rfl) ?_
                      rcases hN54 : gR Mg7 y45_0 4 with _ | b54
                      · replace h := oc_n hN54 h
                        refine r_get (T := TX13) (v := .null) hx hb hts in13 hown hK hP ky45_0 (by decide) rfl 4 (by decide) (hts (.fieldLink RX13 150 "StoneWalkModel" "read" "LStoneWalkModel$Island;") (List.mem_of_getElem? (i := 1) (by decide +kernel))) rfl (t := 2) rfl (by show va_rf _ = _; rw [hN54]; rfl) dX13_readRoad_162 ?_
                        exact absurd h (by simp)
                      · replace h := oc_s hN54 h
                        have kb54 := hT.f ky45_0 (k := 4) (t := 12) (n := 0) rfl hN54
                        refine r_get (T := TX13) (v := .ref (ad b54)) hx hb hts in13 hown hK hP ky45_0 (by decide) rfl 4 (by decide) (hts (.fieldLink RX13 150 "StoneWalkModel" "read" "LStoneWalkModel$Island;") (List.mem_of_getElem? (i := 1) (by decide +kernel))) rfl (t := 2) rfl (by show va_rf _ = _; rw [hN54]; rfl) dX13_readRoad_162 ?_
                        refine r_getN (T := TX12) (v := .int (gI Mg7 b54 1)) hx hb hts in12 hown hK hP kb54 (by decide) rfl 1 (by decide) (hG.2.2.1 ("StoneWalkModel", 188, "StoneWalkModel$Island", "roads", "I", "StoneWalkModel") (List.mem_of_getElem? (i := 6) rfl)) rfl (t := 0) rfl rfl dX13_readRoad_165 ?_
                        refine lv_iload_n hx hb dX13_readRoad_168 rfl (lv_at hl 2 rfl) ?_
                        obtain ⟨hn55, h⟩ := chk_some h
                        refine r_iast hx hb hK hP hD hT hS kb53 hn55 dX13_readRoad_169 (fun H locs hP hD hT hS => ?_)
                        generalize pI Mg7 b53 (ix (gI Mg7 b54 1)) y45_2 = Mg8 at h hP hD hT ⊢
                        refine lv_aload_n hx hb dX13_readRoad_170 rfl (lv_at hl 0 rfl) ?_
                        rcases hN56 : gR Mg8 y45_0 4 with _ | b56
                        · replace h := oc_n hN56 h
                          refine r_get (T := TX13) (v := .null) hx hb hts in13 hown hK hP ky45_0 (by decide) rfl 4 (by decide) (hts (.fieldLink RX13 150 "StoneWalkModel" "read" "LStoneWalkModel$Island;") (List.mem_of_getElem? (i := 1) (by decide +kernel))) rfl (t := 2) rfl (by show va_rf _ = _; rw [hN56]; rfl) dX13_readRoad_171 ?_
                          refine lv_dup hx hb dX13_readRoad_174 rfl ?_
                          exact absurd h (by simp)
                        · replace h := oc_s hN56 h
                          have kb56 := hT.f ky45_0 (k := 4) (t := 12) (n := 0) rfl hN56
                          refine r_get (T := TX13) (v := .ref (ad b56)) hx hb hts in13 hown hK hP ky45_0 (by decide) rfl 4 (by decide) (hts (.fieldLink RX13 150 "StoneWalkModel" "read" "LStoneWalkModel$Island;") (List.mem_of_getElem? (i := 1) (by decide +kernel))) rfl (t := 2) rfl (by show va_rf _ = _; rw [hN56]; rfl) dX13_readRoad_171 ?_
                          refine lv_dup hx hb dX13_readRoad_174 rfl ?_
                          refine r_getN (T := TX12) (v := .int (gI Mg8 b56 1)) hx hb hts in12 hown hK hP kb56 (by decide) rfl 1 (by decide) (hG.2.2.1 ("StoneWalkModel", 188, "StoneWalkModel$Island", "roads", "I", "StoneWalkModel") (List.mem_of_getElem? (i := 6) rfl)) rfl (t := 0) rfl rfl dX13_readRoad_175 ?_
                          refine lv_iconst (v := 1) hx hb dX13_readRoad_178 rfl ?_
                          refine lv_iadd hx hb dX13_readRoad_179 ?_
                          refine r_putIN (T := TX12) (ty := .int) (v := (gI Mg8 b56 1) + 1) hx hb hts in12 tyX12 tyX12_ok nmX12 hown hK hP hD hT hS kb56 (by decide) rfl 1 (by decide) (hG.2.2.1 ("StoneWalkModel", 188, "StoneWalkModel$Island", "roads", "I", "StoneWalkModel") (List.mem_of_getElem? (i := 6) rfl)) rfl rfl (tyX12_ok 1 (by decide)) rfl rfl rfl dX13_readRoad_180 (fun H locs hP hD hT hS => ?_)
                          generalize pI Mg8 b56 1 ((gI Mg8 b56 1) + 1) = Mg9 at h hP hD hT ⊢
                          exact r_vret hx hb hr hlocks hP hK hD hT hG hS (Option.some.inj h) dX13_readRoad_183
              · replace h := ite_t c47 h
                exact r_vret hx hb hr hlocks hP hK hD hT hG hS (Option.some.inj h) dX13_readRoad_137
            · replace h := ite_f c46 h
              refine lv_iload_n hx hb dX13_readRoad_61 rfl (lv_at hl 2 rfl) ?_
              refine lv_bipush (v := 6) hx hb dX13_readRoad_62 rfl ?_
              refine lv_icmp_ne (tgt := 79) hx hb dX13_readRoad_64 rfl (fun c57 => ?_) (fun c57 => ?_)
              · replace h := ite_f c57 h
                refine lv_aload_n hx hb dX13_readRoad_79 rfl (lv_at hl 0 rfl) ?_
                obtain ⟨z58, h58, h⟩ := ob_some h
                refine k_i (va_runV (As := []) (rest := []) ⟨hx, hb, hml, hown, hts⟩ (c_X13_readSlope (l := l) M45 y45_0 ky45_0 h58) (cwV 0 hts gX13_readRoad_X13_readSlope rfl rfl rfl hdV_X13_readSlope ⟨Nat.le_of_ble_eq_true rfl, Nat.le_of_ble_eq_true rfl⟩) (pV (T := TX13) hP hK hD hT hG hS ky45_0 (by decide) rfl) rfl rfl hl.1 rfl (lv_room (Nat.le_of_ble_eq_true rfl)) dX13_readRoad_80 ⟨Nat.zero_le _, Nat.zero_le _⟩) hS (fun H locs hP hD hT hS => ?_)
                refine lv_istore (lv' := [(4, .int z58.1), (0, .ref (ad y45_0)), (1, .int y45_1), (2, .int y45_2), (3, .int y45_3)]) hx hb dX13_readRoad_83 hl (by decide) rfl (fun ls hl => ?_)
                refine lv_aload_n hx hb dX13_readRoad_85 rfl (lv_at hl 1 rfl) ?_
                refine r_get (T := TX13) (v := .int (gI z58.2 y45_0 9)) hx hb hts in13 hown hK hP ky45_0 (by decide) rfl 9 (by decide) (hts (.fieldLink RX13 58 "StoneWalkModel" "sort" "I") (List.mem_of_getElem? (i := 2) (by decide +kernel))) rfl (t := 0) rfl rfl dX13_readRoad_86 ?_
                refine lv_iconst (v := 5) hx hb dX13_readRoad_89 rfl ?_
                refine lv_icmp_ne (tgt := 94) hx hb dX13_readRoad_90 rfl (fun c59 => ?_) (fun c59 => ?_)
                · replace h := ite_f c59 h
                  refine lv_aload_n hx hb dX13_readRoad_94 rfl (lv_at hl 1 rfl) ?_
                  rcases hN60 : gR z58.2 y45_0 4 with _ | b60
                  · replace h := oc_n hN60 h
                    refine r_get (T := TX13) (v := .null) hx hb hts in13 hown hK hP ky45_0 (by decide) rfl 4 (by decide) (hts (.fieldLink RX13 150 "StoneWalkModel" "read" "LStoneWalkModel$Island;") (List.mem_of_getElem? (i := 1) (by decide +kernel))) rfl (t := 2) rfl (by show va_rf _ = _; rw [hN60]; rfl) dX13_readRoad_95 ?_
                    exact absurd h (by simp)
                  · replace h := oc_s hN60 h
                    have kb60 := hT.f ky45_0 (k := 4) (t := 12) (n := 0) rfl hN60
                    refine r_get (T := TX13) (v := .ref (ad b60)) hx hb hts in13 hown hK hP ky45_0 (by decide) rfl 4 (by decide) (hts (.fieldLink RX13 150 "StoneWalkModel" "read" "LStoneWalkModel$Island;") (List.mem_of_getElem? (i := 1) (by decide +kernel))) rfl (t := 2) rfl (by show va_rf _ = _; rw [hN60]; rfl) dX13_readRoad_95 ?_
                    rcases hN61 : gR z58.2 b60 14 with _ | b61
                    · exact absurd (oc_n hN61 h) (by simp)
                    replace h := oc_s hN61 h
                    have kb61 := hT.f kb60 (k := 14) (t := 15) (n := 18) rfl hN61
                    refine r_getN (T := TX12) (v := .ref (ad b61)) hx hb hts in12 hown hK hP kb60 (by decide) rfl 14 (by decide) (hG.2.2.1 ("StoneWalkModel", 261, "StoneWalkModel$Island", "slope", "[I", "StoneWalkModel") (List.mem_of_getElem? (i := 11) rfl)) rfl (t := 2) rfl (by show va_rf _ = _; rw [hN61]; rfl) dX13_readRoad_98 ?_
                    refine lv_bipush (v := 6) hx hb dX13_readRoad_101 rfl ?_
                    refine lv_aload_n hx hb dX13_readRoad_103 rfl (lv_at hl 1 rfl) ?_
                    rcases hN62 : gR z58.2 y45_0 4 with _ | b62
                    · replace h := oc_n hN62 h
                      refine r_get (T := TX13) (v := .null) hx hb hts in13 hown hK hP ky45_0 (by decide) rfl 4 (by decide) (hts (.fieldLink RX13 150 "StoneWalkModel" "read" "LStoneWalkModel$Island;") (List.mem_of_getElem? (i := 1) (by decide +kernel))) rfl (t := 2) rfl (by show va_rf _ = _; rw [hN62]; rfl) dX13_readRoad_104 ?_
                      exact absurd h (by simp)
                    · replace h := oc_s hN62 h
                      have kb62 := hT.f ky45_0 (k := 4) (t := 12) (n := 0) rfl hN62
                      refine r_get (T := TX13) (v := .ref (ad b62)) hx hb hts in13 hown hK hP ky45_0 (by decide) rfl 4 (by decide) (hts (.fieldLink RX13 150 "StoneWalkModel" "read" "LStoneWalkModel$Island;") (List.mem_of_getElem? (i := 1) (by decide +kernel))) rfl (t := 2) rfl (by show va_rf _ = _; rw [hN62]; rfl) dX13_readRoad_104 ?_
                      refine r_getN (T := TX12) (v := .int (gI z58.2 b62 1)) hx hb hts in12 hown hK hP kb62 (by decide) rfl 1 (by decide) (hG.2.2.1 ("StoneWalkModel", 188, "StoneWalkModel$Island", "roads", "I", "StoneWalkModel") (List.mem_of_getElem? (i := 6) rfl)) rfl (t := 0) rfl rfl dX13_readRoad_107 ?_
                      refine lv_imul hx hb dX13_readRoad_110 ?_
                      refine lv_iload_n hx hb dX13_readRoad_111 rfl (lv_at hl 3 rfl) ?_
                      refine lv_iadd hx hb dX13_readRoad_112 ?_
                      refine lv_iload hx hb dX13_readRoad_113 (lv_at hl 0 rfl) ?_
                      obtain ⟨hn63, h⟩ := chk_some h
                      refine r_iast hx hb hK hP hD hT hS kb61 hn63 dX13_readRoad_115 (fun H locs hP hD hT hS => ?_)
                      generalize pI z58.2 b61 (ix ((6 * (gI z58.2 b62 1)) + y45_2)) z58.1 = Mg10 at h hP hD hT ⊢
                      refine lv_iinc (v := y45_2 + 1) (lv' := [(2, .int (y45_2 + 1)), (4, .int z58.1), (0, .ref (ad y45_0)), (1, .int y45_1), (3, .int y45_3)]) hx hb dX13_readRoad_116 hl (k := 3) rfl rfl (by decide) rfl (fun ls hl => ?_)
                      refine lv_aload_n hx hb dX13_readRoad_119 rfl (lv_at hl 2 rfl) ?_
                      refine lv_bipush (v := 44) hx hb dX13_readRoad_120 rfl ?_
                      obtain ⟨z64, h64, h⟩ := ob_some h
                      refine k_z (va_runV (As := [.int 44]) (rest := []) ⟨hx, hb, hml, hown, hts⟩ (c_X13_eatsSign (l := l) Mg10 y45_0 44 ky45_0 h64) (cwV 1 hts gX13_readRoad_X13_eatsSign rfl rfl rfl hdV_X13_eatsSign ⟨Nat.le_of_ble_eq_true rfl, Nat.le_of_ble_eq_true rfl⟩) (pV (T := TX13) hP hK hD hT hG hS ky45_0 (by decide) rfl) rfl rfl hl.1 rfl (lv_room (Nat.le_of_ble_eq_true rfl)) dX13_readRoad_122 ⟨Nat.zero_le _, Nat.zero_le _⟩) hS (fun H locs hz64 hP hD hT hS => ?_)
                      refine lv_istore_n (lv' := [(3, .int z64.1), (2, .int (y45_2 + 1)), (4, .int z58.1), (0, .ref (ad y45_0)), (1, .int y45_1)]) hx hb dX13_readRoad_125 rfl hl (by decide) rfl (fun ls hl => ?_)
                      refine lv_goto (tgt := 57) hx hb dX13_readRoad_126 rfl ?_
                      exact ih45 z64.2 y45_0 y45_1 (y45_2 + 1) z64.1 ky45_0 _ _ h hP hD hT hS ls (lv_sub hl [3, 4, 1, 0] rfl)
                · replace h := ite_t c59 h
                  exact r_vret hx hb hr hlocks hP hK hD hT hG hS (Option.some.inj h) dX13_readRoad_93
              · replace h := ite_t c57 h
                refine lv_aload_n hx hb dX13_readRoad_67 rfl (lv_at hl 0 rfl) ?_
                obtain ⟨z65, h65, h⟩ := ob_some h
                refine k_z (va_runV (As := []) (rest := []) ⟨hx, hb, hml, hown, hts⟩ (c_X13_isSlope (l := l) M45 y45_0 ky45_0 h65) (cwV 0 hts gX13_readRoad_X13_isSlope rfl rfl rfl hdV_X13_isSlope ⟨Nat.le_of_ble_eq_true rfl, Nat.le_of_ble_eq_true rfl⟩) (pV (T := TX13) hP hK hD hT hG hS ky45_0 (by decide) rfl) rfl rfl hl.1 rfl (lv_room (Nat.le_of_ble_eq_true rfl)) dX13_readRoad_68 ⟨Nat.zero_le _, Nat.zero_le _⟩) hS (fun H locs hz65 hP hD hT hS => ?_)
                refine lv_if_eq (tgt := 79) hx hb dX13_readRoad_71 rfl (fun c66 => ?_) (fun c66 => ?_)
                · replace h := ite_t c66 h
                  refine lv_aload_n hx hb dX13_readRoad_79 rfl (lv_at hl 0 rfl) ?_
                  obtain ⟨z67, h67, h⟩ := ob_some h
                  refine k_i (va_runV (As := []) (rest := []) ⟨hx, hb, hml, hown, hts⟩ (c_X13_readSlope (l := l) M45 y45_0 ky45_0 h67) (cwV 0 hts gX13_readRoad_X13_readSlope rfl rfl rfl hdV_X13_readSlope ⟨Nat.le_of_ble_eq_true rfl, Nat.le_of_ble_eq_true rfl⟩) (pV (T := TX13) hP hK hD hT hG hS ky45_0 (by decide) rfl) rfl rfl hl.1 rfl (lv_room (Nat.le_of_ble_eq_true rfl)) dX13_readRoad_80 ⟨Nat.zero_le _, Nat.zero_le _⟩) hS (fun H locs hP hD hT hS => ?_)
                  refine lv_istore (lv' := [(4, .int z67.1), (0, .ref (ad y45_0)), (1, .int y45_1), (2, .int y45_2), (3, .int y45_3)]) hx hb dX13_readRoad_83 hl (by decide) rfl (fun ls hl => ?_)
                  refine lv_aload_n hx hb dX13_readRoad_85 rfl (lv_at hl 1 rfl) ?_
                  refine r_get (T := TX13) (v := .int (gI z67.2 y45_0 9)) hx hb hts in13 hown hK hP ky45_0 (by decide) rfl 9 (by decide) (hts (.fieldLink RX13 58 "StoneWalkModel" "sort" "I") (List.mem_of_getElem? (i := 2) (by decide +kernel))) rfl (t := 0) rfl rfl dX13_readRoad_86 ?_
                  refine lv_iconst (v := 5) hx hb dX13_readRoad_89 rfl ?_
                  refine lv_icmp_ne (tgt := 94) hx hb dX13_readRoad_90 rfl (fun c68 => ?_) (fun c68 => ?_)
                  · replace h := ite_f c68 h
                    refine lv_aload_n hx hb dX13_readRoad_94 rfl (lv_at hl 1 rfl) ?_
                    rcases hN69 : gR z67.2 y45_0 4 with _ | b69
                    · replace h := oc_n hN69 h
                      refine r_get (T := TX13) (v := .null) hx hb hts in13 hown hK hP ky45_0 (by decide) rfl 4 (by decide) (hts (.fieldLink RX13 150 "StoneWalkModel" "read" "LStoneWalkModel$Island;") (List.mem_of_getElem? (i := 1) (by decide +kernel))) rfl (t := 2) rfl (by show va_rf _ = _; rw [hN69]; rfl) dX13_readRoad_95 ?_
                      exact absurd h (by simp)
                    · replace h := oc_s hN69 h
                      have kb69 := hT.f ky45_0 (k := 4) (t := 12) (n := 0) rfl hN69
                      refine r_get (T := TX13) (v := .ref (ad b69)) hx hb hts in13 hown hK hP ky45_0 (by decide) rfl 4 (by decide) (hts (.fieldLink RX13 150 "StoneWalkModel" "read" "LStoneWalkModel$Island;") (List.mem_of_getElem? (i := 1) (by decide +kernel))) rfl (t := 2) rfl (by show va_rf _ = _; rw [hN69]; rfl) dX13_readRoad_95 ?_
                      rcases hN70 : gR z67.2 b69 14 with _ | b70
                      · exact absurd (oc_n hN70 h) (by simp)
                      replace h := oc_s hN70 h
                      have kb70 := hT.f kb69 (k := 14) (t := 15) (n := 18) rfl hN70
                      refine r_getN (T := TX12) (v := .ref (ad b70)) hx hb hts in12 hown hK hP kb69 (by decide) rfl 14 (by decide) (hG.2.2.1 ("StoneWalkModel", 261, "StoneWalkModel$Island", "slope", "[I", "StoneWalkModel") (List.mem_of_getElem? (i := 11) rfl)) rfl (t := 2) rfl (by show va_rf _ = _; rw [hN70]; rfl) dX13_readRoad_98 ?_
                      refine lv_bipush (v := 6) hx hb dX13_readRoad_101 rfl ?_
                      refine lv_aload_n hx hb dX13_readRoad_103 rfl (lv_at hl 1 rfl) ?_
                      rcases hN71 : gR z67.2 y45_0 4 with _ | b71
                      · replace h := oc_n hN71 h
                        refine r_get (T := TX13) (v := .null) hx hb hts in13 hown hK hP ky45_0 (by decide) rfl 4 (by decide) (hts (.fieldLink RX13 150 "StoneWalkModel" "read" "LStoneWalkModel$Island;") (List.mem_of_getElem? (i := 1) (by decide +kernel))) rfl (t := 2) rfl (by show va_rf _ = _; rw [hN71]; rfl) dX13_readRoad_104 ?_
                        exact absurd h (by simp)
                      · replace h := oc_s hN71 h
                        have kb71 := hT.f ky45_0 (k := 4) (t := 12) (n := 0) rfl hN71
                        refine r_get (T := TX13) (v := .ref (ad b71)) hx hb hts in13 hown hK hP ky45_0 (by decide) rfl 4 (by decide) (hts (.fieldLink RX13 150 "StoneWalkModel" "read" "LStoneWalkModel$Island;") (List.mem_of_getElem? (i := 1) (by decide +kernel))) rfl (t := 2) rfl (by show va_rf _ = _; rw [hN71]; rfl) dX13_readRoad_104 ?_
                        refine r_getN (T := TX12) (v := .int (gI z67.2 b71 1)) hx hb hts in12 hown hK hP kb71 (by decide) rfl 1 (by decide) (hG.2.2.1 ("StoneWalkModel", 188, "StoneWalkModel$Island", "roads", "I", "StoneWalkModel") (List.mem_of_getElem? (i := 6) rfl)) rfl (t := 0) rfl rfl dX13_readRoad_107 ?_
                        refine lv_imul hx hb dX13_readRoad_110 ?_
                        refine lv_iload_n hx hb dX13_readRoad_111 rfl (lv_at hl 3 rfl) ?_
                        refine lv_iadd hx hb dX13_readRoad_112 ?_
                        refine lv_iload hx hb dX13_readRoad_113 (lv_at hl 0 rfl) ?_
                        obtain ⟨hn72, h⟩ := chk_some h
                        refine r_iast hx hb hK hP hD hT hS kb70 hn72 dX13_readRoad_115 (fun H locs hP hD hT hS => ?_)
                        generalize pI z67.2 b70 (ix ((6 * (gI z67.2 b71 1)) + y45_2)) z67.1 = Mg11 at h hP hD hT ⊢
                        refine lv_iinc (v := y45_2 + 1) (lv' := [(2, .int (y45_2 + 1)), (4, .int z67.1), (0, .ref (ad y45_0)), (1, .int y45_1), (3, .int y45_3)]) hx hb dX13_readRoad_116 hl (k := 3) rfl rfl (by decide) rfl (fun ls hl => ?_)
                        refine lv_aload_n hx hb dX13_readRoad_119 rfl (lv_at hl 2 rfl) ?_
                        refine lv_bipush (v := 44) hx hb dX13_readRoad_120 rfl ?_
                        obtain ⟨z73, h73, h⟩ := ob_some h
                        refine k_z (va_runV (As := [.int 44]) (rest := []) ⟨hx, hb, hml, hown, hts⟩ (c_X13_eatsSign (l := l) Mg11 y45_0 44 ky45_0 h73) (cwV 1 hts gX13_readRoad_X13_eatsSign rfl rfl rfl hdV_X13_eatsSign ⟨Nat.le_of_ble_eq_true rfl, Nat.le_of_ble_eq_true rfl⟩) (pV (T := TX13) hP hK hD hT hG hS ky45_0 (by decide) rfl) rfl rfl hl.1 rfl (lv_room (Nat.le_of_ble_eq_true rfl)) dX13_readRoad_122 ⟨Nat.zero_le _, Nat.zero_le _⟩) hS (fun H locs hz73 hP hD hT hS => ?_)
                        refine lv_istore_n (lv' := [(3, .int z73.1), (2, .int (y45_2 + 1)), (4, .int z67.1), (0, .ref (ad y45_0)), (1, .int y45_1)]) hx hb dX13_readRoad_125 rfl hl (by decide) rfl (fun ls hl => ?_)
                        refine lv_goto (tgt := 57) hx hb dX13_readRoad_126 rfl ?_
                        exact ih45 z73.2 y45_0 y45_1 (y45_2 + 1) z73.1 ky45_0 _ _ h hP hD hT hS ls (lv_sub hl [3, 4, 1, 0] rfl)
                  · replace h := ite_t c68 h
                    exact r_vret hx hb hr hlocks hP hK hD hT hG hS (Option.some.inj h) dX13_readRoad_93
                · replace h := ite_f c66 h
                  refine lv_aload_n hx hb dX13_readRoad_74 rfl (lv_at hl 0 rfl) ?_
                  refine lv_iconst (v := 5) hx hb dX13_readRoad_75 rfl ?_
                  obtain ⟨z74, h74, h⟩ := ob_some h
                  refine k_v (va_runV (As := [.int 5]) (rest := []) ⟨hx, hb, hml, hown, hts⟩ (c_X13_wrong (l := l) M45 y45_0 5 ky45_0 h74) (cwV 1 hts gX13_readRoad_X13_wrong rfl rfl rfl hdV_X13_wrong ⟨Nat.le_of_ble_eq_true rfl, Nat.le_of_ble_eq_true rfl⟩) (pV (T := TX13) hP hK hD hT hG hS ky45_0 (by decide) rfl) rfl rfl hl.1 rfl (lv_room (Nat.le_of_ble_eq_true rfl)) dX13_readRoad_76 ⟨Nat.zero_le _, Nat.zero_le _⟩) hS (fun H locs hP hD hT hS => ?_)
                  refine lv_aload_n hx hb dX13_readRoad_79 rfl (lv_at hl 0 rfl) ?_
                  obtain ⟨z75, h75, h⟩ := ob_some h
                  refine k_i (va_runV (As := []) (rest := []) ⟨hx, hb, hml, hown, hts⟩ (c_X13_readSlope (l := l) z74 y45_0 ky45_0 h75) (cwV 0 hts gX13_readRoad_X13_readSlope rfl rfl rfl hdV_X13_readSlope ⟨Nat.le_of_ble_eq_true rfl, Nat.le_of_ble_eq_true rfl⟩) (pV (T := TX13) hP hK hD hT hG hS ky45_0 (by decide) rfl) rfl rfl hl.1 rfl (lv_room (Nat.le_of_ble_eq_true rfl)) dX13_readRoad_80 ⟨Nat.zero_le _, Nat.zero_le _⟩) hS (fun H locs hP hD hT hS => ?_)
                  refine lv_istore (lv' := [(4, .int z75.1), (0, .ref (ad y45_0)), (1, .int y45_1), (2, .int y45_2), (3, .int y45_3)]) hx hb dX13_readRoad_83 hl (by decide) rfl (fun ls hl => ?_)
                  refine lv_aload_n hx hb dX13_readRoad_85 rfl (lv_at hl 1 rfl) ?_
                  refine r_get (T := TX13) (v := .int (gI z75.2 y45_0 9)) hx hb hts in13 hown hK hP ky45_0 (by decide) rfl 9 (by decide) (hts (.fieldLink RX13 58 "StoneWalkModel" "sort" "I") (List.mem_of_getElem? (i := 2) (by decide +kernel))) rfl (t := 0) rfl rfl dX13_readRoad_86 ?_
                  refine lv_iconst (v := 5) hx hb dX13_readRoad_89 rfl ?_
                  refine lv_icmp_ne (tgt := 94) hx hb dX13_readRoad_90 rfl (fun c76 => ?_) (fun c76 => ?_)
                  · replace h := ite_f c76 h
                    refine lv_aload_n hx hb dX13_readRoad_94 rfl (lv_at hl 1 rfl) ?_
                    rcases hN77 : gR z75.2 y45_0 4 with _ | b77
                    · replace h := oc_n hN77 h
                      refine r_get (T := TX13) (v := .null) hx hb hts in13 hown hK hP ky45_0 (by decide) rfl 4 (by decide) (hts (.fieldLink RX13 150 "StoneWalkModel" "read" "LStoneWalkModel$Island;") (List.mem_of_getElem? (i := 1) (by decide +kernel))) rfl (t := 2) rfl (by show va_rf _ = _; rw [hN77]; rfl) dX13_readRoad_95 ?_
                      exact absurd h (by simp)
                    · replace h := oc_s hN77 h
                      have kb77 := hT.f ky45_0 (k := 4) (t := 12) (n := 0) rfl hN77
                      refine r_get (T := TX13) (v := .ref (ad b77)) hx hb hts in13 hown hK hP ky45_0 (by decide) rfl 4 (by decide) (hts (.fieldLink RX13 150 "StoneWalkModel" "read" "LStoneWalkModel$Island;") (List.mem_of_getElem? (i := 1) (by decide +kernel))) rfl (t := 2) rfl (by show va_rf _ = _; rw [hN77]; rfl) dX13_readRoad_95 ?_
                      rcases hN78 : gR z75.2 b77 14 with _ | b78
                      · exact absurd (oc_n hN78 h) (by simp)
                      replace h := oc_s hN78 h
                      have kb78 := hT.f kb77 (k := 14) (t := 15) (n := 18) rfl hN78
                      refine r_getN (T := TX12) (v := .ref (ad b78)) hx hb hts in12 hown hK hP kb77 (by decide) rfl 14 (by decide) (hG.2.2.1 ("StoneWalkModel", 261, "StoneWalkModel$Island", "slope", "[I", "StoneWalkModel") (List.mem_of_getElem? (i := 11) rfl)) rfl (t := 2) rfl (by show va_rf _ = _; rw [hN78]; rfl) dX13_readRoad_98 ?_
                      refine lv_bipush (v := 6) hx hb dX13_readRoad_101 rfl ?_
                      refine lv_aload_n hx hb dX13_readRoad_103 rfl (lv_at hl 1 rfl) ?_
                      rcases hN79 : gR z75.2 y45_0 4 with _ | b79
                      · replace h := oc_n hN79 h
                        refine r_get (T := TX13) (v := .null) hx hb hts in13 hown hK hP ky45_0 (by decide) rfl 4 (by decide) (hts (.fieldLink RX13 150 "StoneWalkModel" "read" "LStoneWalkModel$Island;") (List.mem_of_getElem? (i := 1) (by decide +kernel))) rfl (t := 2) rfl (by show va_rf _ = _; rw [hN79]; rfl) dX13_readRoad_104 ?_
                        exact absurd h (by simp)
                      · replace h := oc_s hN79 h
                        have kb79 := hT.f ky45_0 (k := 4) (t := 12) (n := 0) rfl hN79
                        refine r_get (T := TX13) (v := .ref (ad b79)) hx hb hts in13 hown hK hP ky45_0 (by decide) rfl 4 (by decide) (hts (.fieldLink RX13 150 "StoneWalkModel" "read" "LStoneWalkModel$Island;") (List.mem_of_getElem? (i := 1) (by decide +kernel))) rfl (t := 2) rfl (by show va_rf _ = _; rw [hN79]; rfl) dX13_readRoad_104 ?_
                        refine r_getN (T := TX12) (v := .int (gI z75.2 b79 1)) hx hb hts in12 hown hK hP kb79 (by decide) rfl 1 (by decide) (hG.2.2.1 ("StoneWalkModel", 188, "StoneWalkModel$Island", "roads", "I", "StoneWalkModel") (List.mem_of_getElem? (i := 6) rfl)) rfl (t := 0) rfl rfl dX13_readRoad_107 ?_
                        refine lv_imul hx hb dX13_readRoad_110 ?_
                        refine lv_iload_n hx hb dX13_readRoad_111 rfl (lv_at hl 3 rfl) ?_
                        refine lv_iadd hx hb dX13_readRoad_112 ?_
                        refine lv_iload hx hb dX13_readRoad_113 (lv_at hl 0 rfl) ?_
                        obtain ⟨hn80, h⟩ := chk_some h
                        refine r_iast hx hb hK hP hD hT hS kb78 hn80 dX13_readRoad_115 (fun H locs hP hD hT hS => ?_)
                        generalize pI z75.2 b78 (ix ((6 * (gI z75.2 b79 1)) + y45_2)) z75.1 = Mg12 at h hP hD hT ⊢
                        refine lv_iinc (v := y45_2 + 1) (lv' := [(2, .int (y45_2 + 1)), (4, .int z75.1), (0, .ref (ad y45_0)), (1, .int y45_1), (3, .int y45_3)]) hx hb dX13_readRoad_116 hl (k := 3) rfl rfl (by decide) rfl (fun ls hl => ?_)
                        refine lv_aload_n hx hb dX13_readRoad_119 rfl (lv_at hl 2 rfl) ?_
                        refine lv_bipush (v := 44) hx hb dX13_readRoad_120 rfl ?_
                        obtain ⟨z81, h81, h⟩ := ob_some h
                        refine k_z (va_runV (As := [.int 44]) (rest := []) ⟨hx, hb, hml, hown, hts⟩ (c_X13_eatsSign (l := l) Mg12 y45_0 44 ky45_0 h81) (cwV 1 hts gX13_readRoad_X13_eatsSign rfl rfl rfl hdV_X13_eatsSign ⟨Nat.le_of_ble_eq_true rfl, Nat.le_of_ble_eq_true rfl⟩) (pV (T := TX13) hP hK hD hT hG hS ky45_0 (by decide) rfl) rfl rfl hl.1 rfl (lv_room (Nat.le_of_ble_eq_true rfl)) dX13_readRoad_122 ⟨Nat.zero_le _, Nat.zero_le _⟩) hS (fun H locs hz81 hP hD hT hS => ?_)
                        refine lv_istore_n (lv' := [(3, .int z81.1), (2, .int (y45_2 + 1)), (4, .int z75.1), (0, .ref (ad y45_0)), (1, .int y45_1)]) hx hb dX13_readRoad_125 rfl hl (by decide) rfl (fun ls hl => ?_)
                        refine lv_goto (tgt := 57) hx hb dX13_readRoad_126 rfl ?_
                        exact ih45 z81.2 y45_0 y45_1 (y45_2 + 1) z81.1 ky45_0 _ _ h hP hD hT hS ls (lv_sub hl [3, 4, 1, 0] rfl)
                  · replace h := ite_t c76 h
                    exact r_vret hx hb hr hlocks hP hK hD hT hG hS (Option.some.inj h) dX13_readRoad_93
        exact L45 FU z6 a0 z5.1 0 1 k0 _ _ h hP hD hT hS ls (lv_sub hl [3, 2, 1, 0] rfl)
