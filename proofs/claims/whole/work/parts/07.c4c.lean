set_option maxHeartbeats 4000000 in
set_option maxRecDepth 100000 in
theorem c_X13_readFresh {l : Launch} {D : va_G} {ad : Nat → Nat} {cy : Nat → ClassId} {A : Nat → Prop} {g : CG} {q : SE} (M : MM) (a0 : Nat) (x1 : Int32) (x2 : Int32) (k0 : ok g a0 13 0) {Z : MM} (h : f_X13_readFresh M a0 x1 x2 = some Z) : Met l yX13_readFresh wsX13_readFresh ({ frames := 7, cells := 0, slots := 0, locals := 149 }) (va_Pc [.ref (ad a0), .int x1, .int x2] (Wd D ad cy A g q M)) (va_Qv (fun u => u = Z) (Wd D ad cy A g q) A) 0 0 A := by
  refine Met.ofW (cc := cX13_readFresh) (maxL := 3) (ret := none) (by decide) rfl ?_
  intro p e s m args below meth c s₁ B hml hv
  obtain ⟨rfl, hP, hK, hD, hT, hG⟩ := hv
  have hx := B.exec
  have hb := B.bytes
  have hr := B.returns
  have hts := atoms_spec (ws := wsX13_readFresh) B.pre
  have hown : s.vm.findClass RX13 = some m.cls := findClass_of_methodNamed B.named
  have hlocks := B.notSynchronized
  have in12 : ∀ w ∈ u_ws RX12 TX12 48, w ∈ wsX13_readFresh := fun w h => List.mem_cons_of_mem _ (List.mem_append_right _ h)
  have in13 : ∀ w ∈ u_ws RX13 TX13 29, w ∈ wsX13_readFresh := fun w h => List.mem_cons_of_mem _ (List.mem_append_left _ (List.mem_append_right _ h))
  have hS : va_S A s.heap s.heap [] := va_S.rf
  have hl := lv_entry ([.ref (ad a0), .int x1, .int x2]) (n := 3) (Nat.le_of_ble_eq_true rfl)
  rw [lg_entry_eq]
  generalize (lg_sl ([.ref (ad a0), .int x1, .int x2]) ++ List.replicate (3 - (lg_sl ([.ref (ad a0), .int x1, .int x2])).length) Slot.unset).toArray = ls at hl ⊢
  have hl : lv_has ls 3 [(0, .ref (ad a0)), (1, .int x1), (2, .int x2)] := hl
  unfold f_X13_readFresh at h
  refine lv_aload_n hx hb dX13_readFresh_0 rfl (lv_at hl 0 rfl) ?_
  obtain ⟨z1, h1, h⟩ := ob_some h
  refine k_z (va_runV (As := []) (rest := []) ⟨hx, hb, hml, hown, hts⟩ (c_X13_isName (l := l) M a0 k0 h1) (cwV 0 hts gX13_readFresh_X13_isName rfl rfl rfl hdV_X13_isName ⟨Nat.le_of_ble_eq_true rfl, Nat.le_of_ble_eq_true rfl⟩) (pV (T := TX13) hP hK hD hT hG hS k0 (by decide) rfl) rfl rfl hl.1 rfl (lv_room (Nat.le_of_ble_eq_true rfl)) dX13_readFresh_1 ⟨Nat.zero_le _, Nat.zero_le _⟩) hS (fun H locs hz1 hP hD hT hS => ?_)
  refine lv_if_ne (tgt := 12) hx hb dX13_readFresh_4 rfl (fun c2 => ?_) (fun c2 => ?_)
  · replace h := ite_f c2 h
    refine lv_aload_n hx hb dX13_readFresh_12 rfl (lv_at hl 0 rfl) ?_
    rcases hN3 : gR M a0 4 with _ | b3
    · replace h := oc_n hN3 h
      refine r_get (T := TX13) (v := .null) hx hb hts in13 hown hK hP k0 (by decide) rfl 4 (by decide) (hts (.fieldLink RX13 150 "StoneWalkModel" "read" "LStoneWalkModel$Island;") (List.mem_of_getElem? (i := 1) (by decide +kernel))) rfl (t := 2) rfl (by show va_rf _ = _; rw [hN3]; rfl) dX13_readFresh_13 ?_
      refine lv_aload_n hx hb dX13_readFresh_16 rfl (lv_at hl 0 rfl) ?_
      refine r_get (T := TX13) (v := .long (gL M a0 15)) hx hb hts in13 hown hK hP k0 (by decide) rfl 15 (by decide) (hts (.fieldLink RX13 77 "StoneWalkModel" "word" "J") (List.mem_of_getElem? (i := 2) (by decide +kernel))) rfl (t := 1) rfl rfl dX13_readFresh_17 ?_
      exact absurd h (by simp)
    · replace h := oc_s hN3 h
      have kb3 := hT.f k0 (k := 4) (t := 12) (n := 0) rfl hN3
      refine r_get (T := TX13) (v := .ref (ad b3)) hx hb hts in13 hown hK hP k0 (by decide) rfl 4 (by decide) (hts (.fieldLink RX13 150 "StoneWalkModel" "read" "LStoneWalkModel$Island;") (List.mem_of_getElem? (i := 1) (by decide +kernel))) rfl (t := 2) rfl (by show va_rf _ = _; rw [hN3]; rfl) dX13_readFresh_13 ?_
      refine lv_aload_n hx hb dX13_readFresh_16 rfl (lv_at hl 0 rfl) ?_
      refine r_get (T := TX13) (v := .long (gL M a0 15)) hx hb hts in13 hown hK hP k0 (by decide) rfl 15 (by decide) (hts (.fieldLink RX13 77 "StoneWalkModel" "word" "J") (List.mem_of_getElem? (i := 2) (by decide +kernel))) rfl (t := 1) rfl rfl dX13_readFresh_17 ?_
      obtain ⟨z4, h4, h⟩ := ob_some h
      refine k_i (va_runV (As := [.long (gL M a0 15)]) (rest := []) ⟨hx, hb, hml, hown, hts⟩ (c_X12_find (l := l) M b3 (gL M a0 15) kb3 h4) (cwV 1 hts gX13_readFresh_X12_find rfl rfl rfl hdV_X12_find ⟨Nat.le_of_ble_eq_true rfl, Nat.le_of_ble_eq_true rfl⟩) (pV (T := TX12) hP hK hD hT hG hS kb3 (by decide) rfl) rfl rfl hl.1 rfl (lv_room (Nat.le_of_ble_eq_true rfl)) dX13_readFresh_20 ⟨Nat.zero_le _, Nat.zero_le _⟩) hS (fun H locs hP hD hT hS => ?_)
      refine lv_iconst (v := (-1)) hx hb dX13_readFresh_23 rfl ?_
      refine lv_icmp_eq (tgt := 32) hx hb dX13_readFresh_24 rfl (fun c5 => ?_) (fun c5 => ?_)
      · replace h := ite_t c5 h
        refine lv_aload_n hx hb dX13_readFresh_32 rfl (lv_at hl 0 rfl) ?_
        refine r_get (T := TX13) (v := .int (gI M a0 9)) hx hb hts in13 hown hK hP k0 (by decide) rfl 9 (by decide) (hts (.fieldLink RX13 58 "StoneWalkModel" "sort" "I") (List.mem_of_getElem? (i := 3) (by decide +kernel))) rfl (t := 0) rfl rfl dX13_readFresh_33 ?_
        refine lv_iconst (v := 5) hx hb dX13_readFresh_36 rfl ?_
        refine lv_icmp_ne (tgt := 41) hx hb dX13_readFresh_37 rfl (fun c6 => ?_) (fun c6 => ?_)
        · replace h := ite_f c6 h
          refine lv_aload_n hx hb dX13_readFresh_41 rfl (lv_at hl 0 rfl) ?_
          rcases hN7 : gR M a0 4 with _ | b7
          · replace h := oc_n hN7 h
            refine r_get (T := TX13) (v := .null) hx hb hts in13 hown hK hP k0 (by decide) rfl 4 (by decide) (hts (.fieldLink RX13 150 "StoneWalkModel" "read" "LStoneWalkModel$Island;") (List.mem_of_getElem? (i := 1) (by decide +kernel))) rfl (t := 2) rfl (by show va_rf _ = _; rw [hN7]; rfl) dX13_readFresh_42 ?_
            exact absurd h (by simp)
          · replace h := oc_s hN7 h
            have kb7 := hT.f k0 (k := 4) (t := 12) (n := 0) rfl hN7
            refine r_get (T := TX13) (v := .ref (ad b7)) hx hb hts in13 hown hK hP k0 (by decide) rfl 4 (by decide) (hts (.fieldLink RX13 150 "StoneWalkModel" "read" "LStoneWalkModel$Island;") (List.mem_of_getElem? (i := 1) (by decide +kernel))) rfl (t := 2) rfl (by show va_rf _ = _; rw [hN7]; rfl) dX13_readFresh_42 ?_
            rcases hN8 : gR M b7 45 with _ | b8
            · exact absurd (oc_n hN8 h) (by simp)
            replace h := oc_s hN8 h
            have kb8 := hT.f kb7 (k := 45) (t := 16) (n := 35) rfl hN8
            refine r_getN (T := TX12) (v := .ref (ad b8)) hx hb hts in12 hown hK hP kb7 (by decide) rfl 45 (by decide) (hG.2.2.1 ("StoneWalkModel", 160, "StoneWalkModel$Island", "name", "[J", "StoneWalkModel") (List.mem_of_getElem? (i := 1) rfl)) rfl (t := 2) rfl (by show va_rf _ = _; rw [hN8]; rfl) dX13_readFresh_45 ?_
            refine lv_aload_n hx hb dX13_readFresh_48 rfl (lv_at hl 0 rfl) ?_
            rcases hN9 : gR M a0 4 with _ | b9
            · replace h := oc_n hN9 h
              refine r_get (T := TX13) (v := .null) hx hb hts in13 hown hK hP k0 (by decide) rfl 4 (by decide) (hts (.fieldLink RX13 150 "StoneWalkModel" "read" "LStoneWalkModel$Island;") (List.mem_of_getElem? (i := 1) (by decide +kernel))) rfl (t := 2) rfl (by show va_rf _ = _; rw [hN9]; rfl) dX13_readFresh_49 ?_
              exact absurd h (by simp)
            · replace h := oc_s hN9 h
              have kb9 := hT.f k0 (k := 4) (t := 12) (n := 0) rfl hN9
              refine r_get (T := TX13) (v := .ref (ad b9)) hx hb hts in13 hown hK hP k0 (by decide) rfl 4 (by decide) (hts (.fieldLink RX13 150 "StoneWalkModel" "read" "LStoneWalkModel$Island;") (List.mem_of_getElem? (i := 1) (by decide +kernel))) rfl (t := 2) rfl (by show va_rf _ = _; rw [hN9]; rfl) dX13_readFresh_49 ?_
              refine r_getN (T := TX12) (v := .int (gI M b9 8)) hx hb hts in12 hown hK hP kb9 (by decide) rfl 8 (by decide) (hG.2.2.1 ("StoneWalkModel", 164, "StoneWalkModel$Island", "names", "I", "StoneWalkModel") (List.mem_of_getElem? (i := 2) rfl)) rfl (t := 0) rfl rfl dX13_readFresh_52 ?_
              refine lv_aload_n hx hb dX13_readFresh_55 rfl (lv_at hl 0 rfl) ?_
              refine r_get (T := TX13) (v := .long (gL M a0 15)) hx hb hts in13 hown hK hP k0 (by decide) rfl 15 (by decide) (hts (.fieldLink RX13 77 "StoneWalkModel" "word" "J") (List.mem_of_getElem? (i := 2) (by decide +kernel))) rfl (t := 1) rfl rfl dX13_readFresh_56 ?_
              obtain ⟨hn10, h⟩ := chk_some h
              refine r_last hx hb hK hP hD hT hS kb8 hn10 dX13_readFresh_59 (fun H locs hP hD hT hS => ?_)
              generalize pL M b8 (ix (gI M b9 8)) (gL M a0 15) = Mg1 at h hP hD hT ⊢
              refine lv_aload_n hx hb dX13_readFresh_60 rfl (lv_at hl 0 rfl) ?_
              rcases hN11 : gR Mg1 a0 4 with _ | b11
              · replace h := oc_n hN11 h
                refine r_get (T := TX13) (v := .null) hx hb hts in13 hown hK hP k0 (by decide) rfl 4 (by decide) (hts (.fieldLink RX13 150 "StoneWalkModel" "read" "LStoneWalkModel$Island;") (List.mem_of_getElem? (i := 1) (by decide +kernel))) rfl (t := 2) rfl (by show va_rf _ = _; rw [hN11]; rfl) dX13_readFresh_61 ?_
                exact absurd h (by simp)
              · replace h := oc_s hN11 h
                have kb11 := hT.f k0 (k := 4) (t := 12) (n := 0) rfl hN11
                refine r_get (T := TX13) (v := .ref (ad b11)) hx hb hts in13 hown hK hP k0 (by decide) rfl 4 (by decide) (hts (.fieldLink RX13 150 "StoneWalkModel" "read" "LStoneWalkModel$Island;") (List.mem_of_getElem? (i := 1) (by decide +kernel))) rfl (t := 2) rfl (by show va_rf _ = _; rw [hN11]; rfl) dX13_readFresh_61 ?_
                rcases hN12 : gR Mg1 b11 46 with _ | b12
                · exact absurd (oc_n hN12 h) (by simp)
                replace h := oc_s hN12 h
                have kb12 := hT.f kb11 (k := 46) (t := 15) (n := 35) rfl hN12
                refine r_getN (T := TX12) (v := .ref (ad b12)) hx hb hts in12 hown hK hP kb11 (by decide) rfl 46 (by decide) (hG.2.2.1 ("StoneWalkModel", 167, "StoneWalkModel$Island", "nameSort", "[I", "StoneWalkModel") (List.mem_of_getElem? (i := 3) rfl)) rfl (t := 2) rfl (by show va_rf _ = _; rw [hN12]; rfl) dX13_readFresh_64 ?_
                refine lv_aload_n hx hb dX13_readFresh_67 rfl (lv_at hl 0 rfl) ?_
                rcases hN13 : gR Mg1 a0 4 with _ | b13
                · replace h := oc_n hN13 h
                  refine r_get (T := TX13) (v := .null) hx hb hts in13 hown hK hP k0 (by decide) rfl 4 (by decide) (hts (.fieldLink RX13 150 "StoneWalkModel" "read" "LStoneWalkModel$Island;") (List.mem_of_getElem? (i := 1) (by decide +kernel))) rfl (t := 2) rfl (by show va_rf _ = _; rw [hN13]; rfl) dX13_readFresh_68 ?_
                  exact absurd h (by simp)
                · replace h := oc_s hN13 h
                  have kb13 := hT.f k0 (k := 4) (t := 12) (n := 0) rfl hN13
                  refine r_get (T := TX13) (v := .ref (ad b13)) hx hb hts in13 hown hK hP k0 (by decide) rfl 4 (by decide) (hts (.fieldLink RX13 150 "StoneWalkModel" "read" "LStoneWalkModel$Island;") (List.mem_of_getElem? (i := 1) (by decide +kernel))) rfl (t := 2) rfl (by show va_rf _ = _; rw [hN13]; rfl) dX13_readFresh_68 ?_
                  refine r_getN (T := TX12) (v := .int (gI Mg1 b13 8)) hx hb hts in12 hown hK hP kb13 (by decide) rfl 8 (by decide) (hG.2.2.1 ("StoneWalkModel", 164, "StoneWalkModel$Island", "names", "I", "StoneWalkModel") (List.mem_of_getElem? (i := 2) rfl)) rfl (t := 0) rfl rfl dX13_readFresh_71 ?_
                  refine lv_iload_n hx hb dX13_readFresh_74 rfl (lv_at hl 1 rfl) ?_
                  obtain ⟨hn14, h⟩ := chk_some h
                  refine r_iast hx hb hK hP hD hT hS kb12 hn14 dX13_readFresh_75 (fun H locs hP hD hT hS => ?_)
                  generalize pI Mg1 b12 (ix (gI Mg1 b13 8)) x1 = Mg2 at h hP hD hT ⊢
                  refine lv_aload_n hx hb dX13_readFresh_76 rfl (lv_at hl 0 rfl) ?_
                  rcases hN15 : gR Mg2 a0 4 with _ | b15
                  · replace h := oc_n hN15 h
                    refine r_get (T := TX13) (v := .null) hx hb hts in13 hown hK hP k0 (by decide) rfl 4 (by decide) (hts (.fieldLink RX13 150 "StoneWalkModel" "read" "LStoneWalkModel$Island;") (List.mem_of_getElem? (i := 1) (by decide +kernel))) rfl (t := 2) rfl (by show va_rf _ = _; rw [hN15]; rfl) dX13_readFresh_77 ?_
                    exact absurd h (by simp)
                  · replace h := oc_s hN15 h
                    have kb15 := hT.f k0 (k := 4) (t := 12) (n := 0) rfl hN15
                    refine r_get (T := TX13) (v := .ref (ad b15)) hx hb hts in13 hown hK hP k0 (by decide) rfl 4 (by decide) (hts (.fieldLink RX13 150 "StoneWalkModel" "read" "LStoneWalkModel$Island;") (List.mem_of_getElem? (i := 1) (by decide +kernel))) rfl (t := 2) rfl (by show va_rf _ = _; rw [hN15]; rfl) dX13_readFresh_77 ?_
                    rcases hN16 : gR Mg2 b15 47 with _ | b16
                    · exact absurd (oc_n hN16 h) (by simp)
                    replace h := oc_s hN16 h
                    have kb16 := hT.f kb15 (k := 47) (t := 15) (n := 35) rfl hN16
                    refine r_getN (T := TX12) (v := .ref (ad b16)) hx hb hts in12 hown hK hP kb15 (by decide) rfl 47 (by decide) (hG.2.2.1 ("StoneWalkModel", 170, "StoneWalkModel$Island", "nameNumber", "[I", "StoneWalkModel") (List.mem_of_getElem? (i := 4) rfl)) rfl (t := 2) rfl (by show va_rf _ = _; rw [hN16]; rfl) dX13_readFresh_80 ?_
                    refine lv_aload_n hx hb dX13_readFresh_83 rfl (lv_at hl 0 rfl) ?_
                    rcases hN17 : gR Mg2 a0 4 with _ | b17
                    · replace h := oc_n hN17 h
                      refine r_get (T := TX13) (v := .null) hx hb hts in13 hown hK hP k0 (by decide) rfl 4 (by decide) (hts (.fieldLink RX13 150 "StoneWalkModel" "read" "LStoneWalkModel$Island;") (List.mem_of_getElem? (i := 1) (by decide +kernel))) rfl (t := 2) rfl (by show va_rf _ = _; rw [hN17]; rfl) dX13_readFresh_84 ?_
                      exact absurd h (by simp)
                    · replace h := oc_s hN17 h
                      have kb17 := hT.f k0 (k := 4) (t := 12) (n := 0) rfl hN17
                      refine r_get (T := TX13) (v := .ref (ad b17)) hx hb hts in13 hown hK hP k0 (by decide) rfl 4 (by decide) (hts (.fieldLink RX13 150 "StoneWalkModel" "read" "LStoneWalkModel$Island;") (List.mem_of_getElem? (i := 1) (by decide +kernel))) rfl (t := 2) rfl (by show va_rf _ = _; rw [hN17]; rfl) dX13_readFresh_84 ?_
                      refine r_getN (T := TX12) (v := .int (gI Mg2 b17 8)) hx hb hts in12 hown hK hP kb17 (by decide) rfl 8 (by decide) (hG.2.2.1 ("StoneWalkModel", 164, "StoneWalkModel$Island", "names", "I", "StoneWalkModel") (List.mem_of_getElem? (i := 2) rfl)) rfl (t := 0) rfl rfl dX13_readFresh_87 ?_
                      refine lv_iload_n hx hb dX13_readFresh_90 rfl (lv_at hl 2 rfl) ?_
                      obtain ⟨hn18, h⟩ := chk_some h
                      refine r_iast hx hb hK hP hD hT hS kb16 hn18 dX13_readFresh_91 (fun H locs hP hD hT hS => ?_)
                      generalize pI Mg2 b16 (ix (gI Mg2 b17 8)) x2 = Mg3 at h hP hD hT ⊢
                      refine lv_aload_n hx hb dX13_readFresh_92 rfl (lv_at hl 0 rfl) ?_
                      rcases hN19 : gR Mg3 a0 4 with _ | b19
                      · replace h := oc_n hN19 h
                        refine r_get (T := TX13) (v := .null) hx hb hts in13 hown hK hP k0 (by decide) rfl 4 (by decide) (hts (.fieldLink RX13 150 "StoneWalkModel" "read" "LStoneWalkModel$Island;") (List.mem_of_getElem? (i := 1) (by decide +kernel))) rfl (t := 2) rfl (by show va_rf _ = _; rw [hN19]; rfl) dX13_readFresh_93 ?_
                        refine lv_dup hx hb dX13_readFresh_96 rfl ?_
                        exact absurd h (by simp)
                      · replace h := oc_s hN19 h
                        have kb19 := hT.f k0 (k := 4) (t := 12) (n := 0) rfl hN19
                        refine r_get (T := TX13) (v := .ref (ad b19)) hx hb hts in13 hown hK hP k0 (by decide) rfl 4 (by decide) (hts (.fieldLink RX13 150 "StoneWalkModel" "read" "LStoneWalkModel$Island;") (List.mem_of_getElem? (i := 1) (by decide +kernel))) rfl (t := 2) rfl (by show va_rf _ = _; rw [hN19]; rfl) dX13_readFresh_93 ?_
                        refine lv_dup hx hb dX13_readFresh_96 rfl ?_
                        refine r_getN (T := TX12) (v := .int (gI Mg3 b19 8)) hx hb hts in12 hown hK hP kb19 (by decide) rfl 8 (by decide) (hG.2.2.1 ("StoneWalkModel", 164, "StoneWalkModel$Island", "names", "I", "StoneWalkModel") (List.mem_of_getElem? (i := 2) rfl)) rfl (t := 0) rfl rfl dX13_readFresh_97 ?_
                        refine lv_iconst (v := 1) hx hb dX13_readFresh_100 rfl ?_
                        refine lv_iadd hx hb dX13_readFresh_101 ?_
                        refine r_putIN (T := TX12) (ty := .int) (v := (gI Mg3 b19 8) + 1) hx hb hts in12 tyX12 tyX12_ok nmX12 hown hK hP hD hT hS kb19 (by decide) rfl 8 (by decide) (hG.2.2.1 ("StoneWalkModel", 164, "StoneWalkModel$Island", "names", "I", "StoneWalkModel") (List.mem_of_getElem? (i := 2) rfl)) rfl rfl (tyX12_ok 8 (by decide)) rfl rfl rfl dX13_readFresh_102 (fun H locs hP hD hT hS => ?_)
                        generalize pI Mg3 b19 8 ((gI Mg3 b19 8) + 1) = Mg4 at h hP hD hT ⊢
                        refine lv_aload_n hx hb dX13_readFresh_105 rfl (lv_at hl 0 rfl) ?_
                        obtain ⟨z20, h20, h⟩ := ob_some h
                        refine k_v (va_runV (As := []) (rest := []) ⟨hx, hb, hml, hown, hts⟩ (c_X13_goesOn (l := l) Mg4 a0 k0 h20) (cwV 0 hts gX13_readFresh_X13_goesOn rfl rfl rfl hdV_X13_goesOn ⟨Nat.le_of_ble_eq_true rfl, Nat.le_of_ble_eq_true rfl⟩) (pV (T := TX13) hP hK hD hT hG hS k0 (by decide) rfl) rfl rfl hl.1 rfl (lv_room (Nat.le_of_ble_eq_true rfl)) dX13_readFresh_106 ⟨Nat.zero_le _, Nat.zero_le _⟩) hS (fun H locs hP hD hT hS => ?_)
                        exact r_vret hx hb hr hlocks hP hK hD hT hG hS (Option.some.inj h) dX13_readFresh_109
        · replace h := ite_t c6 h
          exact r_vret hx hb hr hlocks hP hK hD hT hG hS (Option.some.inj h) dX13_readFresh_40
      · replace h := ite_f c5 h
        refine lv_aload_n hx hb dX13_readFresh_27 rfl (lv_at hl 0 rfl) ?_
        refine lv_iconst (v := 3) hx hb dX13_readFresh_28 rfl ?_
        obtain ⟨z21, h21, h⟩ := ob_some h
        refine k_v (va_runV (As := [.int 3]) (rest := []) ⟨hx, hb, hml, hown, hts⟩ (c_X13_wrong (l := l) M a0 3 k0 h21) (cwV 1 hts gX13_readFresh_X13_wrong rfl rfl rfl hdV_X13_wrong ⟨Nat.le_of_ble_eq_true rfl, Nat.le_of_ble_eq_true rfl⟩) (pV (T := TX13) hP hK hD hT hG hS k0 (by decide) rfl) rfl rfl hl.1 rfl (lv_room (Nat.le_of_ble_eq_true rfl)) dX13_readFresh_29 ⟨Nat.zero_le _, Nat.zero_le _⟩) hS (fun H locs hP hD hT hS => ?_)
        refine lv_aload_n hx hb dX13_readFresh_32 rfl (lv_at hl 0 rfl) ?_
        refine r_get (T := TX13) (v := .int (gI z21 a0 9)) hx hb hts in13 hown hK hP k0 (by decide) rfl 9 (by decide) (hts (.fieldLink RX13 58 "StoneWalkModel" "sort" "I") (List.mem_of_getElem? (i := 3) (by decide +kernel))) rfl (t := 0) rfl rfl dX13_readFresh_33 ?_
        refine lv_iconst (v := 5) hx hb dX13_readFresh_36 rfl ?_
        refine lv_icmp_ne (tgt := 41) hx hb dX13_readFresh_37 rfl (fun c22 => ?_) (fun c22 => ?_)
        · replace h := ite_f c22 h
          refine lv_aload_n hx hb dX13_readFresh_41 rfl (lv_at hl 0 rfl) ?_
          rcases hN23 : gR z21 a0 4 with _ | b23
          · replace h := oc_n hN23 h
            refine r_get (T := TX13) (v := .null) hx hb hts in13 hown hK hP k0 (by decide) rfl 4 (by decide) (hts (.fieldLink RX13 150 "StoneWalkModel" "read" "LStoneWalkModel$Island;") (List.mem_of_getElem? (i := 1) (by decide +kernel))) rfl (t := 2) rfl (by show va_rf _ = _; rw [hN23]; rfl) dX13_readFresh_42 ?_
            exact absurd h (by simp)
          · replace h := oc_s hN23 h
            have kb23 := hT.f k0 (k := 4) (t := 12) (n := 0) rfl hN23
            refine r_get (T := TX13) (v := .ref (ad b23)) hx hb hts in13 hown hK hP k0 (by decide) rfl 4 (by decide) (hts (.fieldLink RX13 150 "StoneWalkModel" "read" "LStoneWalkModel$Island;") (List.mem_of_getElem? (i := 1) (by decide +kernel))) rfl (t := 2) rfl (by show va_rf _ = _; rw [hN23]; rfl) dX13_readFresh_42 ?_
            rcases hN24 : gR z21 b23 45 with _ | b24
            · exact absurd (oc_n hN24 h) (by simp)
            replace h := oc_s hN24 h
            have kb24 := hT.f kb23 (k := 45) (t := 16) (n := 35) rfl hN24
            refine r_getN (T := TX12) (v := .ref (ad b24)) hx hb hts in12 hown hK hP kb23 (by decide) rfl 45 (by decide) (hG.2.2.1 ("StoneWalkModel", 160, "StoneWalkModel$Island", "name", "[J", "StoneWalkModel") (List.mem_of_getElem? (i := 1) rfl)) rfl (t := 2) rfl (by show va_rf _ = _; rw [hN24]; rfl) dX13_readFresh_45 ?_
            refine lv_aload_n hx hb dX13_readFresh_48 rfl (lv_at hl 0 rfl) ?_
            rcases hN25 : gR z21 a0 4 with _ | b25
            · replace h := oc_n hN25 h
              refine r_get (T := TX13) (v := .null) hx hb hts in13 hown hK hP k0 (by decide) rfl 4 (by decide) (hts (.fieldLink RX13 150 "StoneWalkModel" "read" "LStoneWalkModel$Island;") (List.mem_of_getElem? (i := 1) (by decide +kernel))) rfl (t := 2) rfl (by show va_rf _ = _; rw [hN25]; rfl) dX13_readFresh_49 ?_
              exact absurd h (by simp)
            · replace h := oc_s hN25 h
              have kb25 := hT.f k0 (k := 4) (t := 12) (n := 0) rfl hN25
              refine r_get (T := TX13) (v := .ref (ad b25)) hx hb hts in13 hown hK hP k0 (by decide) rfl 4 (by decide) (hts (.fieldLink RX13 150 "StoneWalkModel" "read" "LStoneWalkModel$Island;") (List.mem_of_getElem? (i := 1) (by decide +kernel))) rfl (t := 2) rfl (by show va_rf _ = _; rw [hN25]; rfl) dX13_readFresh_49 ?_
              refine r_getN (T := TX12) (v := .int (gI z21 b25 8)) hx hb hts in12 hown hK hP kb25 (by decide) rfl 8 (by decide) (hG.2.2.1 ("StoneWalkModel", 164, "StoneWalkModel$Island", "names", "I", "StoneWalkModel") (List.mem_of_getElem? (i := 2) rfl)) rfl (t := 0) rfl rfl dX13_readFresh_52 ?_
              refine lv_aload_n hx hb dX13_readFresh_55 rfl (lv_at hl 0 rfl) ?_
              refine r_get (T := TX13) (v := .long (gL z21 a0 15)) hx hb hts in13 hown hK hP k0 (by decide) rfl 15 (by decide) (hts (.fieldLink RX13 77 "StoneWalkModel" "word" "J") (List.mem_of_getElem? (i := 2) (by decide +kernel))) rfl (t := 1) rfl rfl dX13_readFresh_56 ?_
              obtain ⟨hn26, h⟩ := chk_some h
              refine r_last hx hb hK hP hD hT hS kb24 hn26 dX13_readFresh_59 (fun H locs hP hD hT hS => ?_)
              generalize pL z21 b24 (ix (gI z21 b25 8)) (gL z21 a0 15) = Mg5 at h hP hD hT ⊢
              refine lv_aload_n hx hb dX13_readFresh_60 rfl (lv_at hl 0 rfl) ?_
              rcases hN27 : gR Mg5 a0 4 with _ | b27
              · replace h := oc_n hN27 h
                refine r_get (T := TX13) (v := .null) hx hb hts in13 hown hK hP k0 (by decide) rfl 4 (by decide) (hts (.fieldLink RX13 150 "StoneWalkModel" "read" "LStoneWalkModel$Island;") (List.mem_of_getElem? (i := 1) (by decide +kernel))) rfl (t := 2) rfl (by show va_rf _ = _; rw [hN27]; rfl) dX13_readFresh_61 ?_
                exact absurd h (by simp)
              · replace h := oc_s hN27 h
                have kb27 := hT.f k0 (k := 4) (t := 12) (n := 0) rfl hN27
                refine r_get (T := TX13) (v := .ref (ad b27)) hx hb hts in13 hown hK hP k0 (by decide) rfl 4 (by decide) (hts (.fieldLink RX13 150 "StoneWalkModel" "read" "LStoneWalkModel$Island;") (List.mem_of_getElem? (i := 1) (by decide +kernel))) rfl (t := 2) rfl (by show va_rf _ = _; rw [hN27]; rfl) dX13_readFresh_61 ?_
                rcases hN28 : gR Mg5 b27 46 with _ | b28
                · exact absurd (oc_n hN28 h) (by simp)
                replace h := oc_s hN28 h
                have kb28 := hT.f kb27 (k := 46) (t := 15) (n := 35) rfl hN28
                refine r_getN (T := TX12) (v := .ref (ad b28)) hx hb hts in12 hown hK hP kb27 (by decide) rfl 46 (by decide) (hG.2.2.1 ("StoneWalkModel", 167, "StoneWalkModel$Island", "nameSort", "[I", "StoneWalkModel") (List.mem_of_getElem? (i := 3) rfl)) rfl (t := 2) rfl (by show va_rf _ = _; rw [hN28]; rfl) dX13_readFresh_64 ?_
                refine lv_aload_n hx hb dX13_readFresh_67 rfl (lv_at hl 0 rfl) ?_
                rcases hN29 : gR Mg5 a0 4 with _ | b29
                · replace h := oc_n hN29 h
                  refine r_get (T := TX13) (v := .null) hx hb hts in13 hown hK hP k0 (by decide) rfl 4 (by decide) (hts (.fieldLink RX13 150 "StoneWalkModel" "read" "LStoneWalkModel$Island;") (List.mem_of_getElem? (i := 1) (by decide +kernel))) rfl (t := 2) rfl (by show va_rf _ = _; rw [hN29]; rfl) dX13_readFresh_68 ?_
                  exact absurd h (by simp)
                · replace h := oc_s hN29 h
                  have kb29 := hT.f k0 (k := 4) (t := 12) (n := 0) rfl hN29
                  refine r_get (T := TX13) (v := .ref (ad b29)) hx hb hts in13 hown hK hP k0 (by decide) rfl 4 (by decide) (hts (.fieldLink RX13 150 "StoneWalkModel" "read" "LStoneWalkModel$Island;") (List.mem_of_getElem? (i := 1) (by decide +kernel))) rfl (t := 2) rfl (by show va_rf _ = _; rw [hN29]; rfl) dX13_readFresh_68 ?_
                  refine r_getN (T := TX12) (v := .int (gI Mg5 b29 8)) hx hb hts in12 hown hK hP kb29 (by decide) rfl 8 (by decide) (hG.2.2.1 ("StoneWalkModel", 164, "StoneWalkModel$Island", "names", "I", "StoneWalkModel") (List.mem_of_getElem? (i := 2) rfl)) rfl (t := 0) rfl rfl dX13_readFresh_71 ?_
                  refine lv_iload_n hx hb dX13_readFresh_74 rfl (lv_at hl 1 rfl) ?_
                  obtain ⟨hn30, h⟩ := chk_some h
                  refine r_iast hx hb hK hP hD hT hS kb28 hn30 dX13_readFresh_75 (fun H locs hP hD hT hS => ?_)
                  generalize pI Mg5 b28 (ix (gI Mg5 b29 8)) x1 = Mg6 at h hP hD hT ⊢
                  refine lv_aload_n hx hb dX13_readFresh_76 rfl (lv_at hl 0 rfl) ?_
                  rcases hN31 : gR Mg6 a0 4 with _ | b31
                  · replace h := oc_n hN31 h
                    refine r_get (T := TX13) (v := .null) hx hb hts in13 hown hK hP k0 (by decide) rfl 4 (by decide) (hts (.fieldLink RX13 150 "StoneWalkModel" "read" "LStoneWalkModel$Island;") (List.mem_of_getElem? (i := 1) (by decide +kernel))) rfl (t := 2) rfl (by show va_rf _ = _; rw [hN31]; rfl) dX13_readFresh_77 ?_
                    exact absurd h (by simp)
                  · replace h := oc_s hN31 h
                    have kb31 := hT.f k0 (k := 4) (t := 12) (n := 0) rfl hN31
                    refine r_get (T := TX13) (v := .ref (ad b31)) hx hb hts in13 hown hK hP k0 (by decide) rfl 4 (by decide) (hts (.fieldLink RX13 150 "StoneWalkModel" "read" "LStoneWalkModel$Island;") (List.mem_of_getElem? (i := 1) (by decide +kernel))) rfl (t := 2) rfl (by show va_rf _ = _; rw [hN31]; rfl) dX13_readFresh_77 ?_
                    rcases hN32 : gR Mg6 b31 47 with _ | b32
                    · exact absurd (oc_n hN32 h) (by simp)
                    replace h := oc_s hN32 h
                    have kb32 := hT.f kb31 (k := 47) (t := 15) (n := 35) rfl hN32
                    refine r_getN (T := TX12) (v := .ref (ad b32)) hx hb hts in12 hown hK hP kb31 (by decide) rfl 47 (by decide) (hG.2.2.1 ("StoneWalkModel", 170, "StoneWalkModel$Island", "nameNumber", "[I", "StoneWalkModel") (List.mem_of_getElem? (i := 4) rfl)) rfl (t := 2) rfl (by show va_rf _ = _; rw [hN32]; rfl) dX13_readFresh_80 ?_
                    refine lv_aload_n hx hb dX13_readFresh_83 rfl (lv_at hl 0 rfl) ?_
                    rcases hN33 : gR Mg6 a0 4 with _ | b33
                    · replace h := oc_n hN33 h
                      refine r_get (T := TX13) (v := .null) hx hb hts in13 hown hK hP k0 (by decide) rfl 4 (by decide) (hts (.fieldLink RX13 150 "StoneWalkModel" "read" "LStoneWalkModel$Island;") (List.mem_of_getElem? (i := 1) (by decide +kernel))) rfl (t := 2) rfl (by show va_rf _ = _; rw [hN33]; rfl) dX13_readFresh_84 ?_
                      exact absurd h (by simp)
                    · replace h := oc_s hN33 h
                      have kb33 := hT.f k0 (k := 4) (t := 12) (n := 0) rfl hN33
                      refine r_get (T := TX13) (v := .ref (ad b33)) hx hb hts in13 hown hK hP k0 (by decide) rfl 4 (by decide) (hts (.fieldLink RX13 150 "StoneWalkModel" "read" "LStoneWalkModel$Island;") (List.mem_of_getElem? (i := 1) (by decide +kernel))) rfl (t := 2) rfl (by show va_rf _ = _; rw [hN33]; rfl) dX13_readFresh_84 ?_
                      refine r_getN (T := TX12) (v := .int (gI Mg6 b33 8)) hx hb hts in12 hown hK hP kb33 (by decide) rfl 8 (by decide) (hG.2.2.1 ("StoneWalkModel", 164, "StoneWalkModel$Island", "names", "I", "StoneWalkModel") (List.mem_of_getElem? (i := 2) rfl)) rfl (t := 0) rfl rfl dX13_readFresh_87 ?_
                      refine lv_iload_n hx hb dX13_readFresh_90 rfl (lv_at hl 2 rfl) ?_
                      obtain ⟨hn34, h⟩ := chk_some h
                      refine r_iast hx hb hK hP hD hT hS kb32 hn34 dX13_readFresh_91 (fun H locs hP hD hT hS => ?_)
                      generalize pI Mg6 b32 (ix (gI Mg6 b33 8)) x2 = Mg7 at h hP hD hT ⊢
                      refine lv_aload_n hx hb dX13_readFresh_92 rfl (lv_at hl 0 rfl) ?_
                      rcases hN35 : gR Mg7 a0 4 with _ | b35
                      · replace h := oc_n hN35 h
                        refine r_get (T := TX13) (v := .null) hx hb hts in13 hown hK hP k0 (by decide) rfl 4 (by decide) (hts (.fieldLink RX13 150 "StoneWalkModel" "read" "LStoneWalkModel$Island;") (List.mem_of_getElem? (i := 1) (by decide +kernel))) rfl (t := 2) rfl (by show va_rf _ = _; rw [hN35]; rfl) dX13_readFresh_93 ?_
                        refine lv_dup hx hb dX13_readFresh_96 rfl ?_
                        exact absurd h (by simp)
                      · replace h := oc_s hN35 h
                        have kb35 := hT.f k0 (k := 4) (t := 12) (n := 0) rfl hN35
                        refine r_get (T := TX13) (v := .ref (ad b35)) hx hb hts in13 hown hK hP k0 (by decide) rfl 4 (by decide) (hts (.fieldLink RX13 150 "StoneWalkModel" "read" "LStoneWalkModel$Island;") (List.mem_of_getElem? (i := 1) (by decide +kernel))) rfl (t := 2) rfl (by show va_rf _ = _; rw [hN35]; rfl) dX13_readFresh_93 ?_
                        refine lv_dup hx hb dX13_readFresh_96 rfl ?_
                        refine r_getN (T := TX12) (v := .int (gI Mg7 b35 8)) hx hb hts in12 hown hK hP kb35 (by decide) rfl 8 (by decide) (hG.2.2.1 ("StoneWalkModel", 164, "StoneWalkModel$Island", "names", "I", "StoneWalkModel") (List.mem_of_getElem? (i := 2) rfl)) rfl (t := 0) rfl rfl dX13_readFresh_97 ?_
                        refine lv_iconst (v := 1) hx hb dX13_readFresh_100 rfl ?_
                        refine lv_iadd hx hb dX13_readFresh_101 ?_
                        refine r_putIN (T := TX12) (ty := .int) (v := (gI Mg7 b35 8) + 1) hx hb hts in12 tyX12 tyX12_ok nmX12 hown hK hP hD hT hS kb35 (by decide) rfl 8 (by decide) (hG.2.2.1 ("StoneWalkModel", 164, "StoneWalkModel$Island", "names", "I", "StoneWalkModel") (List.mem_of_getElem? (i := 2) rfl)) rfl rfl (tyX12_ok 8 (by decide)) rfl rfl rfl dX13_readFresh_102 (fun H locs hP hD hT hS => ?_)
                        generalize pI Mg7 b35 8 ((gI Mg7 b35 8) + 1) = Mg8 at h hP hD hT ⊢
                        refine lv_aload_n hx hb dX13_readFresh_105 rfl (lv_at hl 0 rfl) ?_
                        obtain ⟨z36, h36, h⟩ := ob_some h
                        refine k_v (va_runV (As := []) (rest := []) ⟨hx, hb, hml, hown, hts⟩ (c_X13_goesOn (l := l) Mg8 a0 k0 h36) (cwV 0 hts gX13_readFresh_X13_goesOn rfl rfl rfl hdV_X13_goesOn ⟨Nat.le_of_ble_eq_true rfl, Nat.le_of_ble_eq_true rfl⟩) (pV (T := TX13) hP hK hD hT hG hS k0 (by decide) rfl) rfl rfl hl.1 rfl (lv_room (Nat.le_of_ble_eq_true rfl)) dX13_readFresh_106 ⟨Nat.zero_le _, Nat.zero_le _⟩) hS (fun H locs hP hD hT hS => ?_)
                        exact r_vret hx hb hr hlocks hP hK hD hT hG hS (Option.some.inj h) dX13_readFresh_109
        · replace h := ite_t c22 h
          exact r_vret hx hb hr hlocks hP hK hD hT hG hS (Option.some.inj h) dX13_readFresh_40
  · replace h := ite_t c2 h
    refine lv_aload_n hx hb dX13_readFresh_7 rfl (lv_at hl 0 rfl) ?_
    refine lv_iconst (v := 1) hx hb dX13_readFresh_8 rfl ?_
    obtain ⟨z37, h37, h⟩ := ob_some h
    refine k_v (va_runV (As := [.int 1]) (rest := []) ⟨hx, hb, hml, hown, hts⟩ (c_X13_wrong (l := l) M a0 1 k0 h37) (cwV 1 hts gX13_readFresh_X13_wrong rfl rfl rfl hdV_X13_wrong ⟨Nat.le_of_ble_eq_true rfl, Nat.le_of_ble_eq_true rfl⟩) (pV (T := TX13) hP hK hD hT hG hS k0 (by decide) rfl) rfl rfl hl.1 rfl (lv_room (Nat.le_of_ble_eq_true rfl)) dX13_readFresh_9 ⟨Nat.zero_le _, Nat.zero_le _⟩) hS (fun H locs hP hD hT hS => ?_)
    refine lv_aload_n hx hb dX13_readFresh_12 rfl (lv_at hl 0 rfl) ?_
    rcases hN38 : gR z37 a0 4 with _ | b38
    · replace h := oc_n hN38 h
      refine r_get (T := TX13) (v := .null) hx hb hts in13 hown hK hP k0 (by decide) rfl 4 (by decide) (hts (.fieldLink RX13 150 "StoneWalkModel" "read" "LStoneWalkModel$Island;") (List.mem_of_getElem? (i := 1) (by decide +kernel))) rfl (t := 2) rfl (by show va_rf _ = _; rw [hN38]; rfl) dX13_readFresh_13 ?_
      refine lv_aload_n hx hb dX13_readFresh_16 rfl (lv_at hl 0 rfl) ?_
      refine r_get (T := TX13) (v := .long (gL z37 a0 15)) hx hb hts in13 hown hK hP k0 (by decide) rfl 15 (by decide) (hts (.fieldLink RX13 77 "StoneWalkModel" "word" "J") (List.mem_of_getElem? (i := 2) (by decide +kernel))) rfl (t := 1) rfl rfl dX13_readFresh_17 ?_
      exact absurd h (by simp)
    · replace h := oc_s hN38 h
      have kb38 := hT.f k0 (k := 4) (t := 12) (n := 0) rfl hN38
      refine r_get (T := TX13) (v := .ref (ad b38)) hx hb hts in13 hown hK hP k0 (by decide) rfl 4 (by decide) (hts (.fieldLink RX13 150 "StoneWalkModel" "read" "LStoneWalkModel$Island;") (List.mem_of_getElem? (i := 1) (by decide +kernel))) rfl (t := 2) rfl (by show va_rf _ = _; rw [hN38]; rfl) dX13_readFresh_13 ?_
      refine lv_aload_n hx hb dX13_readFresh_16 rfl (lv_at hl 0 rfl) ?_
      refine r_get (T := TX13) (v := .long (gL z37 a0 15)) hx hb hts in13 hown hK hP k0 (by decide) rfl 15 (by decide) (hts (.fieldLink RX13 77 "StoneWalkModel" "word" "J") (List.mem_of_getElem? (i := 2) (by decide +kernel))) rfl (t := 1) rfl rfl dX13_readFresh_17 ?_
      obtain ⟨z39, h39, h⟩ := ob_some h
      refine k_i (va_runV (As := [.long (gL z37 a0 15)]) (rest := []) ⟨hx, hb, hml, hown, hts⟩ (c_X12_find (l := l) z37 b38 (gL z37 a0 15) kb38 h39) (cwV 1 hts gX13_readFresh_X12_find rfl rfl rfl hdV_X12_find ⟨Nat.le_of_ble_eq_true rfl, Nat.le_of_ble_eq_true rfl⟩) (pV (T := TX12) hP hK hD hT hG hS kb38 (by decide) rfl) rfl rfl hl.1 rfl (lv_room (Nat.le_of_ble_eq_true rfl)) dX13_readFresh_20 ⟨Nat.zero_le _, Nat.zero_le _⟩) hS (fun H locs hP hD hT hS => ?_)
      refine lv_iconst (v := (-1)) hx hb dX13_readFresh_23 rfl ?_
      refine lv_icmp_eq (tgt := 32) hx hb dX13_readFresh_24 rfl (fun c40 => ?_) (fun c40 => ?_)
      · replace h := ite_t c40 h
        refine lv_aload_n hx hb dX13_readFresh_32 rfl (lv_at hl 0 rfl) ?_
        refine r_get (T := TX13) (v := .int (gI z37 a0 9)) hx hb hts in13 hown hK hP k0 (by decide) rfl 9 (by decide) (hts (.fieldLink RX13 58 "StoneWalkModel" "sort" "I") (List.mem_of_getElem? (i := 3) (by decide +kernel))) rfl (t := 0) rfl rfl dX13_readFresh_33 ?_
        refine lv_iconst (v := 5) hx hb dX13_readFresh_36 rfl ?_
        refine lv_icmp_ne (tgt := 41) hx hb dX13_readFresh_37 rfl (fun c41 => ?_) (fun c41 => ?_)
        · replace h := ite_f c41 h
          refine lv_aload_n hx hb dX13_readFresh_41 rfl (lv_at hl 0 rfl) ?_
          rcases hN42 : gR z37 a0 4 with _ | b42
          · replace h := oc_n hN42 h
            refine r_get (T := TX13) (v := .null) hx hb hts in13 hown hK hP k0 (by decide) rfl 4 (by decide) (hts (.fieldLink RX13 150 "StoneWalkModel" "read" "LStoneWalkModel$Island;") (List.mem_of_getElem? (i := 1) (by decide +kernel))) rfl (t := 2) rfl (by show va_rf _ = _; rw [hN42]; rfl) dX13_readFresh_42 ?_
            exact absurd h (by simp)
          · replace h := oc_s hN42 h
            have kb42 := hT.f k0 (k := 4) (t := 12) (n := 0) rfl hN42
            refine r_get (T := TX13) (v := .ref (ad b42)) hx hb hts in13 hown hK hP k0 (by decide) rfl 4 (by decide) (hts (.fieldLink RX13 150 "StoneWalkModel" "read" "LStoneWalkModel$Island;") (List.mem_of_getElem? (i := 1) (by decide +kernel))) rfl (t := 2) rfl (by show va_rf _ = _; rw [hN42]; rfl) dX13_readFresh_42 ?_
            rcases hN43 : gR z37 b42 45 with _ | b43
            · exact absurd (oc_n hN43 h) (by simp)
            replace h := oc_s hN43 h
            have kb43 := hT.f kb42 (k := 45) (t := 16) (n := 35) rfl hN43
            refine r_getN (T := TX12) (v := .ref (ad b43)) hx hb hts in12 hown hK hP kb42 (by decide) rfl 45 (by decide) (hG.2.2.1 ("StoneWalkModel", 160, "StoneWalkModel$Island", "name", "[J", "StoneWalkModel") (List.mem_of_getElem? (i := 1) rfl)) rfl (t := 2) rfl (by show va_rf _ = _; rw [hN43]; rfl) dX13_readFresh_45 ?_
            refine lv_aload_n hx hb dX13_readFresh_48 rfl (lv_at hl 0 rfl) ?_
            rcases hN44 : gR z37 a0 4 with _ | b44
            · replace h := oc_n hN44 h
              refine r_get (T := TX13) (v := .null) hx hb hts in13 hown hK hP k0 (by decide) rfl 4 (by decide) (hts (.fieldLink RX13 150 "StoneWalkModel" "read" "LStoneWalkModel$Island;") (List.mem_of_getElem? (i := 1) (by decide +kernel))) rfl (t := 2) rfl (by show va_rf _ = _; rw [hN44]; rfl) dX13_readFresh_49 ?_
              exact absurd h (by simp)
            · replace h := oc_s hN44 h
              have kb44 := hT.f k0 (k := 4) (t := 12) (n := 0) rfl hN44
              refine r_get (T := TX13) (v := .ref (ad b44)) hx hb hts in13 hown hK hP k0 (by decide) rfl 4 (by decide) (hts (.fieldLink RX13 150 "StoneWalkModel" "read" "LStoneWalkModel$Island;") (List.mem_of_getElem? (i := 1) (by decide +kernel))) rfl (t := 2) rfl (by show va_rf _ = _; rw [hN44]; rfl) dX13_readFresh_49 ?_
              refine r_getN (T := TX12) (v := .int (gI z37 b44 8)) hx hb hts in12 hown hK hP kb44 (by decide) rfl 8 (by decide) (hG.2.2.1 ("StoneWalkModel", 164, "StoneWalkModel$Island", "names", "I", "StoneWalkModel") (List.mem_of_getElem? (i := 2) rfl)) rfl (t := 0) rfl rfl dX13_readFresh_52 ?_
              refine lv_aload_n hx hb dX13_readFresh_55 rfl (lv_at hl 0 rfl) ?_
              refine r_get (T := TX13) (v := .long (gL z37 a0 15)) hx hb hts in13 hown hK hP k0 (by decide) rfl 15 (by decide) (hts (.fieldLink RX13 77 "StoneWalkModel" "word" "J") (List.mem_of_getElem? (i := 2) (by decide +kernel))) rfl (t := 1) rfl rfl dX13_readFresh_56 ?_
              obtain ⟨hn45, h⟩ := chk_some h
              refine r_last hx hb hK hP hD hT hS kb43 hn45 dX13_readFresh_59 (fun H locs hP hD hT hS => ?_)
              generalize pL z37 b43 (ix (gI z37 b44 8)) (gL z37 a0 15) = Mg9 at h hP hD hT ⊢
              refine lv_aload_n hx hb dX13_readFresh_60 rfl (lv_at hl 0 rfl) ?_
              rcases hN46 : gR Mg9 a0 4 with _ | b46
              · replace h := oc_n hN46 h
                refine r_get (T := TX13) (v := .null) hx hb hts in13 hown hK hP k0 (by decide) rfl 4 (by decide) (hts (.fieldLink RX13 150 "StoneWalkModel" "read" "LStoneWalkModel$Island;") (List.mem_of_getElem? (i := 1) (by decide +kernel))) rfl (t := 2) rfl (by show va_rf _ = _; rw [hN46]; rfl) dX13_readFresh_61 ?_
                exact absurd h (by simp)
              · replace h := oc_s hN46 h
                have kb46 := hT.f k0 (k := 4) (t := 12) (n := 0) rfl hN46
                refine r_get (T := TX13) (v := .ref (ad b46)) hx hb hts in13 hown hK hP k0 (by decide) rfl 4 (by decide) (hts (.fieldLink RX13 150 "StoneWalkModel" "read" "LStoneWalkModel$Island;") (List.mem_of_getElem? (i := 1) (by decide +kernel))) rfl (t := 2) rfl (by show va_rf _ = _; rw [hN46]; rfl) dX13_readFresh_61 ?_
                rcases hN47 : gR Mg9 b46 46 with _ | b47
                · exact absurd (oc_n hN47 h) (by simp)
                replace h := oc_s hN47 h
                have kb47 := hT.f kb46 (k := 46) (t := 15) (n := 35) rfl hN47
                refine r_getN (T := TX12) (v := .ref (ad b47)) hx hb hts in12 hown hK hP kb46 (by decide) rfl 46 (by decide) (hG.2.2.1 ("StoneWalkModel", 167, "StoneWalkModel$Island", "nameSort", "[I", "StoneWalkModel") (List.mem_of_getElem? (i := 3) rfl)) rfl (t := 2) rfl (by show va_rf _ = _; rw [hN47]; rfl) dX13_readFresh_64 ?_
                refine lv_aload_n hx hb dX13_readFresh_67 rfl (lv_at hl 0 rfl) ?_
                rcases hN48 : gR Mg9 a0 4 with _ | b48
                · replace h := oc_n hN48 h
                  refine r_get (T := TX13) (v := .null) hx hb hts in13 hown hK hP k0 (by decide) rfl 4 (by decide) (hts (.fieldLink RX13 150 "StoneWalkModel" "read" "LStoneWalkModel$Island;") (List.mem_of_getElem? (i := 1) (by decide +kernel))) rfl (t := 2) rfl (by show va_rf _ = _; rw [hN48]; rfl) dX13_readFresh_68 ?_
                  exact absurd h (by simp)
                · replace h := oc_s hN48 h
                  have kb48 := hT.f k0 (k := 4) (t := 12) (n := 0) rfl hN48
                  refine r_get (T := TX13) (v := .ref (ad b48)) hx hb hts in13 hown hK hP k0 (by decide) rfl 4 (by decide) (hts (.fieldLink RX13 150 "StoneWalkModel" "read" "LStoneWalkModel$Island;") (List.mem_of_getElem? (i := 1) (by decide +kernel))) rfl (t := 2) rfl (by show va_rf _ = _; rw [hN48]; rfl) dX13_readFresh_68 ?_
                  refine r_getN (T := TX12) (v := .int (gI Mg9 b48 8)) hx hb hts in12 hown hK hP kb48 (by decide) rfl 8 (by decide) (hG.2.2.1 ("StoneWalkModel", 164, "StoneWalkModel$Island", "names", "I", "StoneWalkModel") (List.mem_of_getElem? (i := 2) rfl)) rfl (t := 0) rfl rfl dX13_readFresh_71 ?_
                  refine lv_iload_n hx hb dX13_readFresh_74 rfl (lv_at hl 1 rfl) ?_
                  obtain ⟨hn49, h⟩ := chk_some h
                  refine r_iast hx hb hK hP hD hT hS kb47 hn49 dX13_readFresh_75 (fun H locs hP hD hT hS => ?_)
                  generalize pI Mg9 b47 (ix (gI Mg9 b48 8)) x1 = Mg10 at h hP hD hT ⊢
                  refine lv_aload_n hx hb dX13_readFresh_76 rfl (lv_at hl 0 rfl) ?_
                  rcases hN50 : gR Mg10 a0 4 with _ | b50
                  · replace h := oc_n hN50 h
                    refine r_get (T := TX13) (v := .null) hx hb hts in13 hown hK hP k0 (by decide) rfl 4 (by decide) (hts (.fieldLink RX13 150 "StoneWalkModel" "read" "LStoneWalkModel$Island;") (List.mem_of_getElem? (i := 1) (by decide +kernel))) rfl (t := 2) rfl (by show va_rf _ = _; rw [hN50]; rfl) dX13_readFresh_77 ?_
                    exact absurd h (by simp)
                  · replace h := oc_s hN50 h
                    have kb50 := hT.f k0 (k := 4) (t := 12) (n := 0) rfl hN50
                    refine r_get (T := TX13) (v := .ref (ad b50)) hx hb hts in13 hown hK hP k0 (by decide) rfl 4 (by decide) (hts (.fieldLink RX13 150 "StoneWalkModel" "read" "LStoneWalkModel$Island;") (List.mem_of_getElem? (i := 1) (by decide +kernel))) rfl (t := 2) rfl (by show va_rf _ = _; rw [hN50]; rfl) dX13_readFresh_77 ?_
                    rcases hN51 : gR Mg10 b50 47 with _ | b51
                    · exact absurd (oc_n hN51 h) (by simp)
                    replace h := oc_s hN51 h
                    have kb51 := hT.f kb50 (k := 47) (t := 15) (n := 35) rfl hN51
                    refine r_getN (T := TX12) (v := .ref (ad b51)) hx hb hts in12 hown hK hP kb50 (by decide) rfl 47 (by decide) (hG.2.2.1 ("StoneWalkModel", 170, "StoneWalkModel$Island", "nameNumber", "[I", "StoneWalkModel") (List.mem_of_getElem? (i := 4) rfl)) rfl (t := 2) rfl (by show va_rf _ = _; rw [hN51]; rfl) dX13_readFresh_80 ?_
                    refine lv_aload_n hx hb dX13_readFresh_83 rfl (lv_at hl 0 rfl) ?_
                    rcases hN52 : gR Mg10 a0 4 with _ | b52
                    · replace h := oc_n hN52 h
                      refine r_get (T := TX13) (v := .null) hx hb hts in13 hown hK hP k0 (by decide) rfl 4 (by decide) (hts (.fieldLink RX13 150 "StoneWalkModel" "read" "LStoneWalkModel$Island;") (List.mem_of_getElem? (i := 1) (by decide +kernel))) rfl (t := 2) rfl (by show va_rf _ = _; rw [hN52]; rfl) dX13_readFresh_84 ?_
                      exact absurd h (by simp)
                    · replace h := oc_s hN52 h
                      have kb52 := hT.f k0 (k := 4) (t := 12) (n := 0) rfl hN52
                      refine r_get (T := TX13) (v := .ref (ad b52)) hx hb hts in13 hown hK hP k0 (by decide) rfl 4 (by decide) (hts (.fieldLink RX13 150 "StoneWalkModel" "read" "LStoneWalkModel$Island;") (List.mem_of_getElem? (i := 1) (by decide +kernel))) rfl (t := 2) rfl (by show va_rf _ = _; rw [hN52]; rfl) dX13_readFresh_84 ?_
                      refine r_getN (T := TX12) (v := .int (gI Mg10 b52 8)) hx hb hts in12 hown hK hP kb52 (by decide) rfl 8 (by decide) (hG.2.2.1 ("StoneWalkModel", 164, "StoneWalkModel$Island", "names", "I", "StoneWalkModel") (List.mem_of_getElem? (i := 2) rfl)) rfl (t := 0) rfl rfl dX13_readFresh_87 ?_
                      refine lv_iload_n hx hb dX13_readFresh_90 rfl (lv_at hl 2 rfl) ?_
                      obtain ⟨hn53, h⟩ := chk_some h
                      refine r_iast hx hb hK hP hD hT hS kb51 hn53 dX13_readFresh_91 (fun H locs hP hD hT hS => ?_)
                      generalize pI Mg10 b51 (ix (gI Mg10 b52 8)) x2 = Mg11 at h hP hD hT ⊢
                      refine lv_aload_n hx hb dX13_readFresh_92 rfl (lv_at hl 0 rfl) ?_
                      rcases hN54 : gR Mg11 a0 4 with _ | b54
                      · replace h := oc_n hN54 h
                        refine r_get (T := TX13) (v := .null) hx hb hts in13 hown hK hP k0 (by decide) rfl 4 (by decide) (hts (.fieldLink RX13 150 "StoneWalkModel" "read" "LStoneWalkModel$Island;") (List.mem_of_getElem? (i := 1) (by decide +kernel))) rfl (t := 2) rfl (by show va_rf _ = _; rw [hN54]; rfl) dX13_readFresh_93 ?_
                        refine lv_dup hx hb dX13_readFresh_96 rfl ?_
                        exact absurd h (by simp)
                      · replace h := oc_s hN54 h
                        have kb54 := hT.f k0 (k := 4) (t := 12) (n := 0) rfl hN54
                        refine r_get (T := TX13) (v := .ref (ad b54)) hx hb hts in13 hown hK hP k0 (by decide) rfl 4 (by decide) (hts (.fieldLink RX13 150 "StoneWalkModel" "read" "LStoneWalkModel$Island;") (List.mem_of_getElem? (i := 1) (by decide +kernel))) rfl (t := 2) rfl (by show va_rf _ = _; rw [hN54]; rfl) dX13_readFresh_93 ?_
                        refine lv_dup hx hb dX13_readFresh_96 rfl ?_
                        refine r_getN (T := TX12) (v := .int (gI Mg11 b54 8)) hx hb hts in12 hown hK hP kb54 (by decide) rfl 8 (by decide) (hG.2.2.1 ("StoneWalkModel", 164, "StoneWalkModel$Island", "names", "I", "StoneWalkModel") (List.mem_of_getElem? (i := 2) rfl)) rfl (t := 0) rfl rfl dX13_readFresh_97 ?_
                        refine lv_iconst (v := 1) hx hb dX13_readFresh_100 rfl ?_
                        refine lv_iadd hx hb dX13_readFresh_101 ?_
                        refine r_putIN (T := TX12) (ty := .int) (v := (gI Mg11 b54 8) + 1) hx hb hts in12 tyX12 tyX12_ok nmX12 hown hK hP hD hT hS kb54 (by decide) rfl 8 (by decide) (hG.2.2.1 ("StoneWalkModel", 164, "StoneWalkModel$Island", "names", "I", "StoneWalkModel") (List.mem_of_getElem? (i := 2) rfl)) rfl rfl (tyX12_ok 8 (by decide)) rfl rfl rfl dX13_readFresh_102 (fun H locs hP hD hT hS => ?_)
                        generalize pI Mg11 b54 8 ((gI Mg11 b54 8) + 1) = Mg12 at h hP hD hT ⊢
                        refine lv_aload_n hx hb dX13_readFresh_105 rfl (lv_at hl 0 rfl) ?_
                        obtain ⟨z55, h55, h⟩ := ob_some h
                        refine k_v (va_runV (As := []) (rest := []) ⟨hx, hb, hml, hown, hts⟩ (c_X13_goesOn (l := l) Mg12 a0 k0 h55) (cwV 0 hts gX13_readFresh_X13_goesOn rfl rfl rfl hdV_X13_goesOn ⟨Nat.le_of_ble_eq_true rfl, Nat.le_of_ble_eq_true rfl⟩) (pV (T := TX13) hP hK hD hT hG hS k0 (by decide) rfl) rfl rfl hl.1 rfl (lv_room (Nat.le_of_ble_eq_true rfl)) dX13_readFresh_106 ⟨Nat.zero_le _, Nat.zero_le _⟩) hS (fun H locs hP hD hT hS => ?_)
                        exact r_vret hx hb hr hlocks hP hK hD hT hG hS (Option.some.inj h) dX13_readFresh_109
        · replace h := ite_t c41 h
          exact r_vret hx hb hr hlocks hP hK hD hT hG hS (Option.some.inj h) dX13_readFresh_40
      · replace h := ite_f c40 h
        refine lv_aload_n hx hb dX13_readFresh_27 rfl (lv_at hl 0 rfl) ?_
        refine lv_iconst (v := 3) hx hb dX13_readFresh_28 rfl ?_
        obtain ⟨z56, h56, h⟩ := ob_some h
        refine k_v (va_runV (As := [.int 3]) (rest := []) ⟨hx, hb, hml, hown, hts⟩ (c_X13_wrong (l := l) z37 a0 3 k0 h56) (cwV 1 hts gX13_readFresh_X13_wrong rfl rfl rfl hdV_X13_wrong ⟨Nat.le_of_ble_eq_true rfl, Nat.le_of_ble_eq_true rfl⟩) (pV (T := TX13) hP hK hD hT hG hS k0 (by decide) rfl) rfl rfl hl.1 rfl (lv_room (Nat.le_of_ble_eq_true rfl)) dX13_readFresh_29 ⟨Nat.zero_le _, Nat.zero_le _⟩) hS (fun H locs hP hD hT hS => ?_)
        refine lv_aload_n hx hb dX13_readFresh_32 rfl (lv_at hl 0 rfl) ?_
        refine r_get (T := TX13) (v := .int (gI z56 a0 9)) hx hb hts in13 hown hK hP k0 (by decide) rfl 9 (by decide) (hts (.fieldLink RX13 58 "StoneWalkModel" "sort" "I") (List.mem_of_getElem? (i := 3) (by decide +kernel))) rfl (t := 0) rfl rfl dX13_readFresh_33 ?_
        refine lv_iconst (v := 5) hx hb dX13_readFresh_36 rfl ?_
        refine lv_icmp_ne (tgt := 41) hx hb dX13_readFresh_37 rfl (fun c57 => ?_) (fun c57 => ?_)
        · replace h := ite_f c57 h
          refine lv_aload_n hx hb dX13_readFresh_41 rfl (lv_at hl 0 rfl) ?_
          rcases hN58 : gR z56 a0 4 with _ | b58
          · replace h := oc_n hN58 h
            refine r_get (T := TX13) (v := .null) hx hb hts in13 hown hK hP k0 (by decide) rfl 4 (by decide) (hts (.fieldLink RX13 150 "StoneWalkModel" "read" "LStoneWalkModel$Island;") (List.mem_of_getElem? (i := 1) (by decide +kernel))) rfl (t := 2) rfl (by show va_rf _ = _; rw [hN58]; rfl) dX13_readFresh_42 ?_
            exact absurd h (by simp)
          · replace h := oc_s hN58 h
            have kb58 := hT.f k0 (k := 4) (t := 12) (n := 0) rfl hN58
            refine r_get (T := TX13) (v := .ref (ad b58)) hx hb hts in13 hown hK hP k0 (by decide) rfl 4 (by decide) (hts (.fieldLink RX13 150 "StoneWalkModel" "read" "LStoneWalkModel$Island;") (List.mem_of_getElem? (i := 1) (by decide +kernel))) rfl (t := 2) rfl (by show va_rf _ = _; rw [hN58]; rfl) dX13_readFresh_42 ?_
            rcases hN59 : gR z56 b58 45 with _ | b59
            · exact absurd (oc_n hN59 h) (by simp)
            replace h := oc_s hN59 h
            have kb59 := hT.f kb58 (k := 45) (t := 16) (n := 35) rfl hN59
            refine r_getN (T := TX12) (v := .ref (ad b59)) hx hb hts in12 hown hK hP kb58 (by decide) rfl 45 (by decide) (hG.2.2.1 ("StoneWalkModel", 160, "StoneWalkModel$Island", "name", "[J", "StoneWalkModel") (List.mem_of_getElem? (i := 1) rfl)) rfl (t := 2) rfl (by show va_rf _ = _; rw [hN59]; rfl) dX13_readFresh_45 ?_
            refine lv_aload_n hx hb dX13_readFresh_48 rfl (lv_at hl 0 rfl) ?_
            rcases hN60 : gR z56 a0 4 with _ | b60
            · replace h := oc_n hN60 h
              refine r_get (T := TX13) (v := .null) hx hb hts in13 hown hK hP k0 (by decide) rfl 4 (by decide) (hts (.fieldLink RX13 150 "StoneWalkModel" "read" "LStoneWalkModel$Island;") (List.mem_of_getElem? (i := 1) (by decide +kernel))) rfl (t := 2) rfl (by show va_rf _ = _; rw [hN60]; rfl) dX13_readFresh_49 ?_
              exact absurd h (by simp)
            · replace h := oc_s hN60 h
              have kb60 := hT.f k0 (k := 4) (t := 12) (n := 0) rfl hN60
              refine r_get (T := TX13) (v := .ref (ad b60)) hx hb hts in13 hown hK hP k0 (by decide) rfl 4 (by decide) (hts (.fieldLink RX13 150 "StoneWalkModel" "read" "LStoneWalkModel$Island;") (List.mem_of_getElem? (i := 1) (by decide +kernel))) rfl (t := 2) rfl (by show va_rf _ = _; rw [hN60]; rfl) dX13_readFresh_49 ?_
              refine r_getN (T := TX12) (v := .int (gI z56 b60 8)) hx hb hts in12 hown hK hP kb60 (by decide) rfl 8 (by decide) (hG.2.2.1 ("StoneWalkModel", 164, "StoneWalkModel$Island", "names", "I", "StoneWalkModel") (List.mem_of_getElem? (i := 2) rfl)) rfl (t := 0) rfl rfl dX13_readFresh_52 ?_
              refine lv_aload_n hx hb dX13_readFresh_55 rfl (lv_at hl 0 rfl) ?_
              refine r_get (T := TX13) (v := .long (gL z56 a0 15)) hx hb hts in13 hown hK hP k0 (by decide) rfl 15 (by decide) (hts (.fieldLink RX13 77 "StoneWalkModel" "word" "J") (List.mem_of_getElem? (i := 2) (by decide +kernel))) rfl (t := 1) rfl rfl dX13_readFresh_56 ?_
              obtain ⟨hn61, h⟩ := chk_some h
              refine r_last hx hb hK hP hD hT hS kb59 hn61 dX13_readFresh_59 (fun H locs hP hD hT hS => ?_)
              generalize pL z56 b59 (ix (gI z56 b60 8)) (gL z56 a0 15) = Mg13 at h hP hD hT ⊢
              refine lv_aload_n hx hb dX13_readFresh_60 rfl (lv_at hl 0 rfl) ?_
              rcases hN62 : gR Mg13 a0 4 with _ | b62
              · replace h := oc_n hN62 h
                refine r_get (T := TX13) (v := .null) hx hb hts in13 hown hK hP k0 (by decide) rfl 4 (by decide) (hts (.fieldLink RX13 150 "StoneWalkModel" "read" "LStoneWalkModel$Island;") (List.mem_of_getElem? (i := 1) (by decide +kernel))) rfl (t := 2) rfl (by show va_rf _ = _; rw [hN62]; rfl) dX13_readFresh_61 ?_
                exact absurd h (by simp)
              · replace h := oc_s hN62 h
                have kb62 := hT.f k0 (k := 4) (t := 12) (n := 0) rfl hN62
                refine r_get (T := TX13) (v := .ref (ad b62)) hx hb hts in13 hown hK hP k0 (by decide) rfl 4 (by decide) (hts (.fieldLink RX13 150 "StoneWalkModel" "read" "LStoneWalkModel$Island;") (List.mem_of_getElem? (i := 1) (by decide +kernel))) rfl (t := 2) rfl (by show va_rf _ = _; rw [hN62]; rfl) dX13_readFresh_61 ?_
                rcases hN63 : gR Mg13 b62 46 with _ | b63
                · exact absurd (oc_n hN63 h) (by simp)
                replace h := oc_s hN63 h
                have kb63 := hT.f kb62 (k := 46) (t := 15) (n := 35) rfl hN63
                refine r_getN (T := TX12) (v := .ref (ad b63)) hx hb hts in12 hown hK hP kb62 (by decide) rfl 46 (by decide) (hG.2.2.1 ("StoneWalkModel", 167, "StoneWalkModel$Island", "nameSort", "[I", "StoneWalkModel") (List.mem_of_getElem? (i := 3) rfl)) rfl (t := 2) rfl (by show va_rf _ = _; rw [hN63]; rfl) dX13_readFresh_64 ?_
                refine lv_aload_n hx hb dX13_readFresh_67 rfl (lv_at hl 0 rfl) ?_
                rcases hN64 : gR Mg13 a0 4 with _ | b64
                · replace h := oc_n hN64 h
                  refine r_get (T := TX13) (v := .null) hx hb hts in13 hown hK hP k0 (by decide) rfl 4 (by decide) (hts (.fieldLink RX13 150 "StoneWalkModel" "read" "LStoneWalkModel$Island;") (List.mem_of_getElem? (i := 1) (by decide +kernel))) rfl (t := 2) rfl (by show va_rf _ = _; rw [hN64]; rfl) dX13_readFresh_68 ?_
                  exact absurd h (by simp)
                · replace h := oc_s hN64 h
                  have kb64 := hT.f k0 (k := 4) (t := 12) (n := 0) rfl hN64
                  refine r_get (T := TX13) (v := .ref (ad b64)) hx hb hts in13 hown hK hP k0 (by decide) rfl 4 (by decide) (hts (.fieldLink RX13 150 "StoneWalkModel" "read" "LStoneWalkModel$Island;") (List.mem_of_getElem? (i := 1) (by decide +kernel))) rfl (t := 2) rfl (by show va_rf _ = _; rw [hN64]; rfl) dX13_readFresh_68 ?_
                  refine r_getN (T := TX12) (v := .int (gI Mg13 b64 8)) hx hb hts in12 hown hK hP kb64 (by decide) rfl 8 (by decide) (hG.2.2.1 ("StoneWalkModel", 164, "StoneWalkModel$Island", "names", "I", "StoneWalkModel") (List.mem_of_getElem? (i := 2) rfl)) rfl (t := 0) rfl rfl dX13_readFresh_71 ?_
                  refine lv_iload_n hx hb dX13_readFresh_74 rfl (lv_at hl 1 rfl) ?_
                  obtain ⟨hn65, h⟩ := chk_some h
                  refine r_iast hx hb hK hP hD hT hS kb63 hn65 dX13_readFresh_75 (fun H locs hP hD hT hS => ?_)
                  generalize pI Mg13 b63 (ix (gI Mg13 b64 8)) x1 = Mg14 at h hP hD hT ⊢
                  refine lv_aload_n hx hb dX13_readFresh_76 rfl (lv_at hl 0 rfl) ?_
                  rcases hN66 : gR Mg14 a0 4 with _ | b66
                  · replace h := oc_n hN66 h
                    refine r_get (T := TX13) (v := .null) hx hb hts in13 hown hK hP k0 (by decide) rfl 4 (by decide) (hts (.fieldLink RX13 150 "StoneWalkModel" "read" "LStoneWalkModel$Island;") (List.mem_of_getElem? (i := 1) (by decide +kernel))) rfl (t := 2) rfl (by show va_rf _ = _; rw [hN66]; rfl) dX13_readFresh_77 ?_
                    exact absurd h (by simp)
                  · replace h := oc_s hN66 h
                    have kb66 := hT.f k0 (k := 4) (t := 12) (n := 0) rfl hN66
                    refine r_get (T := TX13) (v := .ref (ad b66)) hx hb hts in13 hown hK hP k0 (by decide) rfl 4 (by decide) (hts (.fieldLink RX13 150 "StoneWalkModel" "read" "LStoneWalkModel$Island;") (List.mem_of_getElem? (i := 1) (by decide +kernel))) rfl (t := 2) rfl (by show va_rf _ = _; rw [hN66]; rfl) dX13_readFresh_77 ?_
                    rcases hN67 : gR Mg14 b66 47 with _ | b67
                    · exact absurd (oc_n hN67 h) (by simp)
                    replace h := oc_s hN67 h
                    have kb67 := hT.f kb66 (k := 47) (t := 15) (n := 35) rfl hN67
                    refine r_getN (T := TX12) (v := .ref (ad b67)) hx hb hts in12 hown hK hP kb66 (by decide) rfl 47 (by decide) (hG.2.2.1 ("StoneWalkModel", 170, "StoneWalkModel$Island", "nameNumber", "[I", "StoneWalkModel") (List.mem_of_getElem? (i := 4) rfl)) rfl (t := 2) rfl (by show va_rf _ = _; rw [hN67]; rfl) dX13_readFresh_80 ?_
                    refine lv_aload_n hx hb dX13_readFresh_83 rfl (lv_at hl 0 rfl) ?_
                    rcases hN68 : gR Mg14 a0 4 with _ | b68
                    · replace h := oc_n hN68 h
                      refine r_get (T := TX13) (v := .null) hx hb hts in13 hown hK hP k0 (by decide) rfl 4 (by decide) (hts (.fieldLink RX13 150 "StoneWalkModel" "read" "LStoneWalkModel$Island;") (List.mem_of_getElem? (i := 1) (by decide +kernel))) rfl (t := 2) rfl (by show va_rf _ = _; rw [hN68]; rfl) dX13_readFresh_84 ?_
                      exact absurd h (by simp)
                    · replace h := oc_s hN68 h
                      have kb68 := hT.f k0 (k := 4) (t := 12) (n := 0) rfl hN68
                      refine r_get (T := TX13) (v := .ref (ad b68)) hx hb hts in13 hown hK hP k0 (by decide) rfl 4 (by decide) (hts (.fieldLink RX13 150 "StoneWalkModel" "read" "LStoneWalkModel$Island;") (List.mem_of_getElem? (i := 1) (by decide +kernel))) rfl (t := 2) rfl (by show va_rf _ = _; rw [hN68]; rfl) dX13_readFresh_84 ?_
                      refine r_getN (T := TX12) (v := .int (gI Mg14 b68 8)) hx hb hts in12 hown hK hP kb68 (by decide) rfl 8 (by decide) (hG.2.2.1 ("StoneWalkModel", 164, "StoneWalkModel$Island", "names", "I", "StoneWalkModel") (List.mem_of_getElem? (i := 2) rfl)) rfl (t := 0) rfl rfl dX13_readFresh_87 ?_
                      refine lv_iload_n hx hb dX13_readFresh_90 rfl (lv_at hl 2 rfl) ?_
                      obtain ⟨hn69, h⟩ := chk_some h
                      refine r_iast hx hb hK hP hD hT hS kb67 hn69 dX13_readFresh_91 (fun H locs hP hD hT hS => ?_)
                      generalize pI Mg14 b67 (ix (gI Mg14 b68 8)) x2 = Mg15 at h hP hD hT ⊢
                      refine lv_aload_n hx hb dX13_readFresh_92 rfl (lv_at hl 0 rfl) ?_
                      rcases hN70 : gR Mg15 a0 4 with _ | b70
                      · replace h := oc_n hN70 h
                        refine r_get (T := TX13) (v := .null) hx hb hts in13 hown hK hP k0 (by decide) rfl 4 (by decide) (hts (.fieldLink RX13 150 "StoneWalkModel" "read" "LStoneWalkModel$Island;") (List.mem_of_getElem? (i := 1) (by decide +kernel))) rfl (t := 2) rfl (by show va_rf _ = _; rw [hN70]; rfl) dX13_readFresh_93 ?_
                        refine lv_dup hx hb dX13_readFresh_96 rfl ?_
                        exact absurd h (by simp)
                      · replace h := oc_s hN70 h
                        have kb70 := hT.f k0 (k := 4) (t := 12) (n := 0) rfl hN70
                        refine r_get (T := TX13) (v := .ref (ad b70)) hx hb hts in13 hown hK hP k0 (by decide) rfl 4 (by decide) (hts (.fieldLink RX13 150 "StoneWalkModel" "read" "LStoneWalkModel$Island;") (List.mem_of_getElem? (i := 1) (by decide +kernel))) rfl (t := 2) rfl (by show va_rf _ = _; rw [hN70]; rfl) dX13_readFresh_93 ?_
                        refine lv_dup hx hb dX13_readFresh_96 rfl ?_
                        refine r_getN (T := TX12) (v := .int (gI Mg15 b70 8)) hx hb hts in12 hown hK hP kb70 (by decide) rfl 8 (by decide) (hG.2.2.1 ("StoneWalkModel", 164, "StoneWalkModel$Island", "names", "I", "StoneWalkModel") (List.mem_of_getElem? (i := 2) rfl)) rfl (t := 0) rfl rfl dX13_readFresh_97 ?_
                        refine lv_iconst (v := 1) hx hb dX13_readFresh_100 rfl ?_
                        refine lv_iadd hx hb dX13_readFresh_101 ?_
                        refine r_putIN (T := TX12) (ty := .int) (v := (gI Mg15 b70 8) + 1) hx hb hts in12 tyX12 tyX12_ok nmX12 hown hK hP hD hT hS kb70 (by decide) rfl 8 (by decide) (hG.2.2.1 ("StoneWalkModel", 164, "StoneWalkModel$Island", "names", "I", "StoneWalkModel") (List.mem_of_getElem? (i := 2) rfl)) rfl rfl (tyX12_ok 8 (by decide)) rfl rfl rfl dX13_readFresh_102 (fun H locs hP hD hT hS => ?_)
                        generalize pI Mg15 b70 8 ((gI Mg15 b70 8) + 1) = Mg16 at h hP hD hT ⊢
                        refine lv_aload_n hx hb dX13_readFresh_105 rfl (lv_at hl 0 rfl) ?_
                        obtain ⟨z71, h71, h⟩ := ob_some h
                        refine k_v (va_runV (As := []) (rest := []) ⟨hx, hb, hml, hown, hts⟩ (c_X13_goesOn (l := l) Mg16 a0 k0 h71) (cwV 0 hts gX13_readFresh_X13_goesOn rfl rfl rfl hdV_X13_goesOn ⟨Nat.le_of_ble_eq_true rfl, Nat.le_of_ble_eq_true rfl⟩) (pV (T := TX13) hP hK hD hT hG hS k0 (by decide) rfl) rfl rfl hl.1 rfl (lv_room (Nat.le_of_ble_eq_true rfl)) dX13_readFresh_106 ⟨Nat.zero_le _, Nat.zero_le _⟩) hS (fun H locs hP hD hT hS => ?_)
                        exact r_vret hx hb hr hlocks hP hK hD hT hG hS (Option.some.inj h) dX13_readFresh_109
        · replace h := ite_t c57 h
          exact r_vret hx hb hr hlocks hP hK hD hT hG hS (Option.some.inj h) dX13_readFresh_40
