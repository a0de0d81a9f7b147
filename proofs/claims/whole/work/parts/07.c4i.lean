set_option maxHeartbeats 4000000 in
set_option maxRecDepth 100000 in
theorem c_X13_readTeller {l : Launch} {D : va_G} {ad : Nat → Nat} {cy : Nat → ClassId} {A : Nat → Prop} {g : CG} {q : SE} (M : MM) (a0 : Nat) (k0 : ok g a0 13 0) {Z : MM} (h : f_X13_readTeller M a0 = some Z) : Met l yX13_readTeller wsX13_readTeller ({ frames := 8, cells := 0, slots := 0, locals := 173 }) (va_Pc [.ref (ad a0)] (Wd D ad cy A g q M)) (va_Qv (fun u => u = Z) (Wd D ad cy A g q) A) 0 0 A := by
  refine Met.ofW (cc := cX13_readTeller) (maxL := 4) (ret := none) (by decide) rfl ?_
  intro p e s m args below meth c s₁ B hml hv
  obtain ⟨rfl, hP, hK, hD, hT, hG⟩ := hv
  have hx := B.exec
  have hb := B.bytes
  have hr := B.returns
  have hts := atoms_spec (ws := wsX13_readTeller) B.pre
  have hown : s.vm.findClass RX13 = some m.cls := findClass_of_methodNamed B.named
  have hlocks := B.notSynchronized
  have in12 : ∀ w ∈ u_ws RX12 TX12 48, w ∈ wsX13_readTeller := fun w h => List.mem_cons_of_mem _ (List.mem_append_right _ h)
  have in13 : ∀ w ∈ u_ws RX13 TX13 29, w ∈ wsX13_readTeller := fun w h => List.mem_cons_of_mem _ (List.mem_append_left _ (List.mem_append_right _ h))
  have hS : va_S A s.heap s.heap [] := va_S.rf
  have hl := lv_entry ([.ref (ad a0)]) (n := 4) (Nat.le_of_ble_eq_true rfl)
  rw [lg_entry_eq]
  generalize (lg_sl ([.ref (ad a0)]) ++ List.replicate (4 - (lg_sl ([.ref (ad a0)])).length) Slot.unset).toArray = ls at hl ⊢
  have hl : lv_has ls 4 [(0, .ref (ad a0))] := hl
  unfold f_X13_readTeller at h
  refine lv_aload_n hx hb dX13_readTeller_0 rfl (lv_at hl 0 rfl) ?_
  refine lv_aload_n hx hb dX13_readTeller_1 rfl (lv_at hl 0 rfl) ?_
  rcases hN1 : gR M a0 4 with _ | b1
  · replace h := oc_n hN1 h
    refine r_get (T := TX13) (v := .null) hx hb hts in13 hown hK hP k0 (by decide) rfl 4 (by decide) (hts (.fieldLink RX13 150 "StoneWalkModel" "read" "LStoneWalkModel$Island;") (List.mem_of_getElem? (i := 1) (by decide +kernel))) rfl (t := 2) rfl (by show va_rf _ = _; rw [hN1]; rfl) dX13_readTeller_2 ?_
    exact absurd h (by simp)
  · replace h := oc_s hN1 h
    have kb1 := hT.f k0 (k := 4) (t := 12) (n := 0) rfl hN1
    refine r_get (T := TX13) (v := .ref (ad b1)) hx hb hts in13 hown hK hP k0 (by decide) rfl 4 (by decide) (hts (.fieldLink RX13 150 "StoneWalkModel" "read" "LStoneWalkModel$Island;") (List.mem_of_getElem? (i := 1) (by decide +kernel))) rfl (t := 2) rfl (by show va_rf _ = _; rw [hN1]; rfl) dX13_readTeller_2 ?_
    refine r_getN (T := TX12) (v := .int (gI M b1 6)) hx hb hts in12 hown hK hP kb1 (by decide) rfl 6 (by decide) (hG.2.2.1 ("StoneWalkModel", 393, "StoneWalkModel$Island", "tellers", "I", "StoneWalkModel") (List.mem_of_getElem? (i := 41) rfl)) rfl (t := 0) rfl rfl dX13_readTeller_5 ?_
    refine lv_iconst (v := 3) hx hb dX13_readTeller_8 rfl ?_
    obtain ⟨z2, h2, h⟩ := ob_some h
    refine k_v (va_runV (As := [.int (gI M b1 6), .int 3]) (rest := []) ⟨hx, hb, hml, hown, hts⟩ (c_X13_begins (l := l) M a0 (gI M b1 6) 3 k0 h2) (cwV 2 hts gX13_readTeller_X13_begins rfl rfl rfl hdV_X13_begins ⟨Nat.le_of_ble_eq_true rfl, Nat.le_of_ble_eq_true rfl⟩) (pV (T := TX13) hP hK hD hT hG hS k0 (by decide) rfl) rfl rfl hl.1 rfl (lv_room (Nat.le_of_ble_eq_true rfl)) dX13_readTeller_9 ⟨Nat.zero_le _, Nat.zero_le _⟩) hS (fun H locs hP hD hT hS => ?_)
    refine lv_aload_n hx hb dX13_readTeller_12 rfl (lv_at hl 0 rfl) ?_
    refine lv_iconst (v := 2) hx hb dX13_readTeller_13 rfl ?_
    refine lv_aload_n hx hb dX13_readTeller_14 rfl (lv_at hl 0 rfl) ?_
    rcases hN3 : gR z2 a0 4 with _ | b3
    · replace h := oc_n hN3 h
      refine r_get (T := TX13) (v := .null) hx hb hts in13 hown hK hP k0 (by decide) rfl 4 (by decide) (hts (.fieldLink RX13 150 "StoneWalkModel" "read" "LStoneWalkModel$Island;") (List.mem_of_getElem? (i := 1) (by decide +kernel))) rfl (t := 2) rfl (by show va_rf _ = _; rw [hN3]; rfl) dX13_readTeller_15 ?_
      exact absurd h (by simp)
    · replace h := oc_s hN3 h
      have kb3 := hT.f k0 (k := 4) (t := 12) (n := 0) rfl hN3
      refine r_get (T := TX13) (v := .ref (ad b3)) hx hb hts in13 hown hK hP k0 (by decide) rfl 4 (by decide) (hts (.fieldLink RX13 150 "StoneWalkModel" "read" "LStoneWalkModel$Island;") (List.mem_of_getElem? (i := 1) (by decide +kernel))) rfl (t := 2) rfl (by show va_rf _ = _; rw [hN3]; rfl) dX13_readTeller_15 ?_
      refine r_getN (T := TX12) (v := .int (gI z2 b3 6)) hx hb hts in12 hown hK hP kb3 (by decide) rfl 6 (by decide) (hG.2.2.1 ("StoneWalkModel", 393, "StoneWalkModel$Island", "tellers", "I", "StoneWalkModel") (List.mem_of_getElem? (i := 41) rfl)) rfl (t := 0) rfl rfl dX13_readTeller_18 ?_
      obtain ⟨z4, h4, h⟩ := ob_some h
      refine k_v (va_runV (As := [.int 2, .int (gI z2 b3 6)]) (rest := []) ⟨hx, hb, hml, hown, hts⟩ (c_X13_readFresh (l := l) z2 a0 2 (gI z2 b3 6) k0 h4) (cwV 2 hts gX13_readTeller_X13_readFresh rfl rfl rfl hdV_X13_readFresh ⟨Nat.le_of_ble_eq_true rfl, Nat.le_of_ble_eq_true rfl⟩) (pV (T := TX13) hP hK hD hT hG hS k0 (by decide) rfl) rfl rfl hl.1 rfl (lv_room (Nat.le_of_ble_eq_true rfl)) dX13_readTeller_21 ⟨Nat.zero_le _, Nat.zero_le _⟩) hS (fun H locs hP hD hT hS => ?_)
      refine lv_aload_n hx hb dX13_readTeller_24 rfl (lv_at hl 0 rfl) ?_
      refine r_ldcSw (tx := "year") (i := 21) hx hb hG hown (by decide +kernel) dX13_readTeller_25 ?_
      refine lv_iconst (v := 0) hx hb dX13_readTeller_28 rfl ?_
      refine lv_sipush (v := 999) hx hb dX13_readTeller_29 rfl ?_
      obtain ⟨z5, h5, h⟩ := ob_some h
      refine k_i (va_runV (As := [.ref (q.2.1 21), .int 0, .int 999]) (rest := []) ⟨hx, hb, hml, hown, hts⟩ (c_X13_readPart (l := l) z4 a0 21 0 999 k0 (by decide) h5) (cwV 3 hts gX13_readTeller_X13_readPart rfl rfl rfl hdV_X13_readPart ⟨Nat.le_of_ble_eq_true rfl, Nat.le_of_ble_eq_true rfl⟩) (pV (T := TX13) hP hK hD hT hG hS k0 (by decide) rfl) rfl rfl hl.1 rfl (lv_room (Nat.le_of_ble_eq_true rfl)) dX13_readTeller_32 ⟨Nat.zero_le _, Nat.zero_le _⟩) hS (fun H locs hP hD hT hS => ?_)
      refine lv_pop hx hb dX13_readTeller_35 rfl ?_
      refine lv_aload_n hx hb dX13_readTeller_36 rfl (lv_at hl 0 rfl) ?_
      refine r_ldcSw (tx := "means") (i := 22) hx hb hG hown (by decide +kernel) dX13_readTeller_37 ?_
      obtain ⟨z6, h6, h⟩ := ob_some h
      refine k_v (va_runV (As := [.ref (q.2.1 22)]) (rest := []) ⟨hx, hb, hml, hown, hts⟩ (c_X13_needs (l := l) z5.2 a0 22 k0 (by decide) h6) (cwV 1 hts gX13_readTeller_X13_needs rfl rfl rfl hdV_X13_needs ⟨Nat.le_of_ble_eq_true rfl, Nat.le_of_ble_eq_true rfl⟩) (pV (T := TX13) hP hK hD hT hG hS k0 (by decide) rfl) rfl rfl hl.1 rfl (lv_room (Nat.le_of_ble_eq_true rfl)) dX13_readTeller_40 ⟨Nat.zero_le _, Nat.zero_le _⟩) hS (fun H locs hP hD hT hS => ?_)
      refine lv_iconst (v := 0) hx hb dX13_readTeller_43 rfl ?_
      refine lv_istore_n (lv' := [(1, .int 0), (0, .ref (ad a0))]) hx hb dX13_readTeller_44 rfl hl (by decide) rfl (fun ls hl => ?_)
      refine lv_aload_n hx hb dX13_readTeller_45 rfl (lv_at hl 1 rfl) ?_
      refine r_get (T := TX13) (v := .int (gI z6 a0 9)) hx hb hts in13 hown hK hP k0 (by decide) rfl 9 (by decide) (hts (.fieldLink RX13 58 "StoneWalkModel" "sort" "I") (List.mem_of_getElem? (i := 2) (by decide +kernel))) rfl (t := 0) rfl rfl dX13_readTeller_46 ?_
      refine lv_iconst (v := 5) hx hb dX13_readTeller_49 rfl ?_
      refine lv_icmp_eq (tgt := 57) hx hb dX13_readTeller_50 rfl (fun c7 => ?_) (fun c7 => ?_)
      · replace h := ite_t c7 h
        refine lv_iconst (v := 0) hx hb dX13_readTeller_57 rfl ?_
        refine lv_istore_n (lv' := [(2, .int 0), (1, .int 0), (0, .ref (ad a0))]) hx hb dX13_readTeller_58 rfl hl (by decide) rfl (fun ls hl => ?_)
        have L8 : ∀ n8 : Nat, ∀ (M8 : MM) (y8_0 : Nat) (y8_1 : Int32) (y8_2 : Int32) (ky8_0 : ok g y8_0 13 0) (H : Heap) (locs : List Loc), f_X13_readTeller_L59 n8 M8 y8_0 y8_1 y8_2 = some Z → va_P D vwCl (wd ad cy g M8) H → va_D A (wd ad cy g M8) → WT g M8 → va_S A s.heap H locs → ∀ (ls : Array Slot), lv_has ls 4 [(0, .ref (ad y8_0)), (1, .int y8_1), (2, .int y8_2)] → W p l e ((headSpec wsX13_readTeller ({ frames := 8, cells := 0, slots := 0, locals := 173 })).room) s m (([.ref (ad a0)] : List Value).toArray) below meth c H locs 0 0 (MQ below (va_Qv (fun u => u = Z) (Wd D ad cy A g q) A) ([.ref (ad a0)]).toArray s 0 0 A) (F0 m 59 ls []) := by
          intro n8
          induction n8 with
          | zero => intro M8 y8_0 y8_1 y8_2 ky8_0 H locs h; exact absurd h (by simp [f_X13_readTeller_L59])
          | succ n8 ih8 =>
            intro M8 y8_0 y8_1 y8_2 ky8_0 H locs h hP hD hT hS ls hl
            rw [f_X13_readTeller_L59] at h
            refine lv_iload_n hx hb dX13_readTeller_59 rfl (lv_at hl 2 rfl) ?_
            refine lv_if_eq (tgt := 112) hx hb dX13_readTeller_60 rfl (fun c9 => ?_) (fun c9 => ?_)
            · replace h := ite_t c9 h
              refine lv_aload_n hx hb dX13_readTeller_112 rfl (lv_at hl 0 rfl) ?_
              refine r_ldcS (tx := "stranger") (i := 23) hx hb hG hown (by decide +kernel) dX13_readTeller_113 ?_
              obtain ⟨z10, h10, h⟩ := ob_some h
              refine k_z (va_runV (As := [.ref (q.2.1 23)]) (rest := []) ⟨hx, hb, hml, hown, hts⟩ (c_X13_eatsWord (l := l) M8 y8_0 23 ky8_0 (by decide) h10) (cwV 1 hts gX13_readTeller_X13_eatsWord rfl rfl rfl hdV_X13_eatsWord ⟨Nat.le_of_ble_eq_true rfl, Nat.le_of_ble_eq_true rfl⟩) (pV (T := TX13) hP hK hD hT hG hS ky8_0 (by decide) rfl) rfl rfl hl.1 rfl (lv_room (Nat.le_of_ble_eq_true rfl)) dX13_readTeller_115 ⟨Nat.zero_le _, Nat.zero_le _⟩) hS (fun H locs hz10 hP hD hT hS => ?_)
              refine lv_istore_n (lv' := [(3, .int z10.1), (0, .ref (ad y8_0)), (1, .int y8_1), (2, .int y8_2)]) hx hb dX13_readTeller_118 rfl hl (by decide) rfl (fun ls hl => ?_)
              refine lv_aload_n hx hb dX13_readTeller_119 rfl (lv_at hl 1 rfl) ?_
              refine r_get (T := TX13) (v := .int (gI z10.2 y8_0 9)) hx hb hts in13 hown hK hP ky8_0 (by decide) rfl 9 (by decide) (hts (.fieldLink RX13 58 "StoneWalkModel" "sort" "I") (List.mem_of_getElem? (i := 2) (by decide +kernel))) rfl (t := 0) rfl rfl dX13_readTeller_120 ?_
              refine lv_iconst (v := 5) hx hb dX13_readTeller_123 rfl ?_
              refine lv_icmp_ne (tgt := 128) hx hb dX13_readTeller_124 rfl (fun c11 => ?_) (fun c11 => ?_)
              · replace h := ite_f c11 h
                refine lv_aload_n hx hb dX13_readTeller_128 rfl (lv_at hl 1 rfl) ?_
                rcases hN12 : gR z10.2 y8_0 4 with _ | b12
                · replace h := oc_n hN12 h
                  refine r_get (T := TX13) (v := .null) hx hb hts in13 hown hK hP ky8_0 (by decide) rfl 4 (by decide) (hts (.fieldLink RX13 150 "StoneWalkModel" "read" "LStoneWalkModel$Island;") (List.mem_of_getElem? (i := 1) (by decide +kernel))) rfl (t := 2) rfl (by show va_rf _ = _; rw [hN12]; rfl) dX13_readTeller_129 ?_
                  exact absurd h (by simp)
                · replace h := oc_s hN12 h
                  have kb12 := hT.f ky8_0 (k := 4) (t := 12) (n := 0) rfl hN12
                  refine r_get (T := TX13) (v := .ref (ad b12)) hx hb hts in13 hown hK hP ky8_0 (by decide) rfl 4 (by decide) (hts (.fieldLink RX13 150 "StoneWalkModel" "read" "LStoneWalkModel$Island;") (List.mem_of_getElem? (i := 1) (by decide +kernel))) rfl (t := 2) rfl (by show va_rf _ = _; rw [hN12]; rfl) dX13_readTeller_129 ?_
                  rcases hN13 : gR z10.2 b12 39 with _ | b13
                  · exact absurd (oc_n hN13 h) (by simp)
                  replace h := oc_s hN13 h
                  have kb13 := hT.f kb12 (k := 39) (t := 15) (n := 3) rfl hN13
                  refine r_getN (T := TX12) (v := .ref (ad b13)) hx hb hts in12 hown hK hP kb12 (by decide) rfl 39 (by decide) (hG.2.2.1 ("StoneWalkModel", 403, "StoneWalkModel$Island", "means", "[I", "StoneWalkModel") (List.mem_of_getElem? (i := 42) rfl)) rfl (t := 2) rfl (by show va_rf _ = _; rw [hN13]; rfl) dX13_readTeller_132 ?_
                  refine lv_aload_n hx hb dX13_readTeller_135 rfl (lv_at hl 1 rfl) ?_
                  rcases hN14 : gR z10.2 y8_0 4 with _ | b14
                  · replace h := oc_n hN14 h
                    refine r_get (T := TX13) (v := .null) hx hb hts in13 hown hK hP ky8_0 (by decide) rfl 4 (by decide) (hts (.fieldLink RX13 150 "StoneWalkModel" "read" "LStoneWalkModel$Island;") (List.mem_of_getElem? (i := 1) (by decide +kernel))) rfl (t := 2) rfl (by show va_rf _ = _; rw [hN14]; rfl) dX13_readTeller_136 ?_
                    exact absurd h (by simp)
                  · replace h := oc_s hN14 h
                    have kb14 := hT.f ky8_0 (k := 4) (t := 12) (n := 0) rfl hN14
                    refine r_get (T := TX13) (v := .ref (ad b14)) hx hb hts in13 hown hK hP ky8_0 (by decide) rfl 4 (by decide) (hts (.fieldLink RX13 150 "StoneWalkModel" "read" "LStoneWalkModel$Island;") (List.mem_of_getElem? (i := 1) (by decide +kernel))) rfl (t := 2) rfl (by show va_rf _ = _; rw [hN14]; rfl) dX13_readTeller_136 ?_
                    refine r_getN (T := TX12) (v := .int (gI z10.2 b14 6)) hx hb hts in12 hown hK hP kb14 (by decide) rfl 6 (by decide) (hG.2.2.1 ("StoneWalkModel", 393, "StoneWalkModel$Island", "tellers", "I", "StoneWalkModel") (List.mem_of_getElem? (i := 41) rfl)) rfl (t := 0) rfl rfl dX13_readTeller_139 ?_
                    refine lv_iload_n hx hb dX13_readTeller_142 rfl (lv_at hl 2 rfl) ?_
                    obtain ⟨hn15, h⟩ := chk_some h
                    refine r_iast hx hb hK hP hD hT hS kb13 hn15 dX13_readTeller_143 (fun H locs hP hD hT hS => ?_)
                    generalize pI z10.2 b13 (ix (gI z10.2 b14 6)) y8_1 = Mg1 at h hP hD hT ⊢
                    refine lv_aload_n hx hb dX13_readTeller_144 rfl (lv_at hl 1 rfl) ?_
                    rcases hN16 : gR Mg1 y8_0 4 with _ | b16
                    · replace h := oc_n hN16 h
                      refine r_get (T := TX13) (v := .null) hx hb hts in13 hown hK hP ky8_0 (by decide) rfl 4 (by decide) (hts (.fieldLink RX13 150 "StoneWalkModel" "read" "LStoneWalkModel$Island;") (List.mem_of_getElem? (i := 1) (by decide +kernel))) rfl (t := 2) rfl (by show va_rf _ = _; rw [hN16]; rfl) dX13_readTeller_145 ?_
                      exact absurd h (by simp)
                    · replace h := oc_s hN16 h
                      have kb16 := hT.f ky8_0 (k := 4) (t := 12) (n := 0) rfl hN16
                      refine r_get (T := TX13) (v := .ref (ad b16)) hx hb hts in13 hown hK hP ky8_0 (by decide) rfl 4 (by decide) (hts (.fieldLink RX13 150 "StoneWalkModel" "read" "LStoneWalkModel$Island;") (List.mem_of_getElem? (i := 1) (by decide +kernel))) rfl (t := 2) rfl (by show va_rf _ = _; rw [hN16]; rfl) dX13_readTeller_145 ?_
                      rcases hN17 : gR Mg1 b16 44 with _ | b17
                      · exact absurd (oc_n hN17 h) (by simp)
                      replace h := oc_s hN17 h
                      have kb17 := hT.f kb16 (k := 44) (t := 17) (n := 3) rfl hN17
                      refine r_getN (T := TX12) (v := .ref (ad b17)) hx hb hts in12 hown hK hP kb16 (by decide) rfl 44 (by decide) (hG.2.2.1 ("StoneWalkModel", 405, "StoneWalkModel$Island", "isStranger", "[Z", "StoneWalkModel") (List.mem_of_getElem? (i := 43) rfl)) rfl (t := 2) rfl (by show va_rf _ = _; rw [hN17]; rfl) dX13_readTeller_148 ?_
                      refine lv_aload_n hx hb dX13_readTeller_151 rfl (lv_at hl 1 rfl) ?_
                      rcases hN18 : gR Mg1 y8_0 4 with _ | b18
                      · replace h := oc_n hN18 h
                        refine r_get (T := TX13) (v := .null) hx hb hts in13 hown hK hP ky8_0 (by decide) rfl 4 (by decide) (hts (.fieldLink RX13 150 "StoneWalkModel" "read" "LStoneWalkModel$Island;") (List.mem_of_getElem? (i := 1) (by decide +kernel))) rfl (t := 2) rfl (by show va_rf _ = _; rw [hN18]; rfl) dX13_readTeller_152 ?_
                        exact absurd h (by simp)
                      · replace h := oc_s hN18 h
                        have kb18 := hT.f ky8_0 (k := 4) (t := 12) (n := 0) rfl hN18
                        refine r_get (T := TX13) (v := .ref (ad b18)) hx hb hts in13 hown hK hP ky8_0 (by decide) rfl 4 (by decide) (hts (.fieldLink RX13 150 "StoneWalkModel" "read" "LStoneWalkModel$Island;") (List.mem_of_getElem? (i := 1) (by decide +kernel))) rfl (t := 2) rfl (by show va_rf _ = _; rw [hN18]; rfl) dX13_readTeller_152 ?_
                        refine r_getN (T := TX12) (v := .int (gI Mg1 b18 6)) hx hb hts in12 hown hK hP kb18 (by decide) rfl 6 (by decide) (hG.2.2.1 ("StoneWalkModel", 393, "StoneWalkModel$Island", "tellers", "I", "StoneWalkModel") (List.mem_of_getElem? (i := 41) rfl)) rfl (t := 0) rfl rfl dX13_readTeller_155 ?_
                        refine lv_iload_n hx hb dX13_readTeller_158 rfl (lv_at hl 0 rfl) ?_
                        obtain ⟨hn19, h⟩ := chk_some h
                        refine r_zast hx hb hK hP hD hT hS kb17 hn19 hz10 dX13_readTeller_159 (fun H locs hP hD hT hS => ?_)
                        generalize pI Mg1 b17 (ix (gI Mg1 b18 6)) z10.1 = Mg2 at h hP hD hT ⊢
                        refine lv_aload_n hx hb dX13_readTeller_160 rfl (lv_at hl 1 rfl) ?_
                        rcases hN20 : gR Mg2 y8_0 4 with _ | b20
                        · replace h := oc_n hN20 h
                          refine r_get (T := TX13) (v := .null) hx hb hts in13 hown hK hP ky8_0 (by decide) rfl 4 (by decide) (hts (.fieldLink RX13 150 "StoneWalkModel" "read" "LStoneWalkModel$Island;") (List.mem_of_getElem? (i := 1) (by decide +kernel))) rfl (t := 2) rfl (by show va_rf _ = _; rw [hN20]; rfl) dX13_readTeller_161 ?_
                          refine lv_dup hx hb dX13_readTeller_164 rfl ?_
                          exact absurd h (by simp)
                        · replace h := oc_s hN20 h
                          have kb20 := hT.f ky8_0 (k := 4) (t := 12) (n := 0) rfl hN20
                          refine r_get (T := TX13) (v := .ref (ad b20)) hx hb hts in13 hown hK hP ky8_0 (by decide) rfl 4 (by decide) (hts (.fieldLink RX13 150 "StoneWalkModel" "read" "LStoneWalkModel$Island;") (List.mem_of_getElem? (i := 1) (by decide +kernel))) rfl (t := 2) rfl (by show va_rf _ = _; rw [hN20]; rfl) dX13_readTeller_161 ?_
                          refine lv_dup hx hb dX13_readTeller_164 rfl ?_
                          refine r_getN (T := TX12) (v := .int (gI Mg2 b20 6)) hx hb hts in12 hown hK hP kb20 (by decide) rfl 6 (by decide) (hG.2.2.1 ("StoneWalkModel", 393, "StoneWalkModel$Island", "tellers", "I", "StoneWalkModel") (List.mem_of_getElem? (i := 41) rfl)) rfl (t := 0) rfl rfl dX13_readTeller_165 ?_
                          refine lv_iconst (v := 1) hx hb dX13_readTeller_168 rfl ?_
                          refine lv_iadd hx hb dX13_readTeller_169 ?_
                          refine r_putIN (T := TX12) (ty := .int) (v := (gI Mg2 b20 6) + 1) hx hb hts in12 tyX12 tyX12_ok nmX12 hown hK hP hD hT hS kb20 (by decide) rfl 6 (by decide) (hG.2.2.1 ("StoneWalkModel", 393, "StoneWalkModel$Island", "tellers", "I", "StoneWalkModel") (List.mem_of_getElem? (i := 41) rfl)) rfl rfl (tyX12_ok 6 (by decide)) rfl rfl rfl dX13_readTeller_170 (fun H locs hP hD hT hS => ?_)
                          generalize pI Mg2 b20 6 ((gI Mg2 b20 6) + 1) = Mg3 at h hP hD hT ⊢
                          exact r_vret hx hb hr hlocks hP hK hD hT hG hS (Option.some.inj h) dX13_readTeller_173
              · replace h := ite_t c11 h
                exact r_vret hx hb hr hlocks hP hK hD hT hG hS (Option.some.inj h) dX13_readTeller_127
            · replace h := ite_f c9 h
              refine lv_aload_n hx hb dX13_readTeller_63 rfl (lv_at hl 0 rfl) ?_
              refine lv_iconst (v := 0) hx hb dX13_readTeller_64 rfl ?_
              obtain ⟨z21, h21, h⟩ := ob_some h
              refine k_i (va_runV (As := [.int 0]) (rest := []) ⟨hx, hb, hml, hown, hts⟩ (c_X13_known (l := l) M8 y8_0 0 ky8_0 h21) (cwV 1 hts gX13_readTeller_X13_known rfl rfl rfl hdV_X13_known ⟨Nat.le_of_ble_eq_true rfl, Nat.le_of_ble_eq_true rfl⟩) (pV (T := TX13) hP hK hD hT hG hS ky8_0 (by decide) rfl) rfl rfl hl.1 rfl (lv_room (Nat.le_of_ble_eq_true rfl)) dX13_readTeller_65 ⟨Nat.zero_le _, Nat.zero_le _⟩) hS (fun H locs hP hD hT hS => ?_)
              refine lv_istore_n (lv' := [(3, .int z21.1), (0, .ref (ad y8_0)), (1, .int y8_1), (2, .int y8_2)]) hx hb dX13_readTeller_68 rfl hl (by decide) rfl (fun ls hl => ?_)
              refine lv_iload_n hx hb dX13_readTeller_69 rfl (lv_at hl 2 rfl) ?_
              refine lv_iload_n hx hb dX13_readTeller_70 rfl (lv_at hl 0 rfl) ?_
              refine lv_ishr hx hb dX13_readTeller_71 ?_
              refine lv_iconst (v := 1) hx hb dX13_readTeller_72 rfl ?_
              refine lv_iand hx hb dX13_readTeller_73 ?_
              refine lv_iconst (v := 1) hx hb dX13_readTeller_74 rfl ?_
              refine lv_icmp_ne (tgt := 83) hx hb dX13_readTeller_75 rfl (fun c22 => ?_) (fun c22 => ?_)
              · replace h := ite_f c22 h
                refine lv_aload_n hx hb dX13_readTeller_83 rfl (lv_at hl 1 rfl) ?_
                obtain ⟨z23, h23, h⟩ := ob_some h
                refine k_v (va_runV (As := []) (rest := []) ⟨hx, hb, hml, hown, hts⟩ (c_X13_goesOn (l := l) z21.2 y8_0 ky8_0 h23) (cwV 0 hts gX13_readTeller_X13_goesOn rfl rfl rfl hdV_X13_goesOn ⟨Nat.le_of_ble_eq_true rfl, Nat.le_of_ble_eq_true rfl⟩) (pV (T := TX13) hP hK hD hT hG hS ky8_0 (by decide) rfl) rfl rfl hl.1 rfl (lv_room (Nat.le_of_ble_eq_true rfl)) dX13_readTeller_84 ⟨Nat.zero_le _, Nat.zero_le _⟩) hS (fun H locs hP hD hT hS => ?_)
                refine lv_aload_n hx hb dX13_readTeller_87 rfl (lv_at hl 1 rfl) ?_
                refine r_get (T := TX13) (v := .int (gI z23 y8_0 9)) hx hb hts in13 hown hK hP ky8_0 (by decide) rfl 9 (by decide) (hts (.fieldLink RX13 58 "StoneWalkModel" "sort" "I") (List.mem_of_getElem? (i := 2) (by decide +kernel))) rfl (t := 0) rfl rfl dX13_readTeller_88 ?_
                refine lv_iconst (v := 5) hx hb dX13_readTeller_91 rfl ?_
                refine lv_icmp_ne (tgt := 96) hx hb dX13_readTeller_92 rfl (fun c24 => ?_) (fun c24 => ?_)
                · replace h := ite_f c24 h
                  refine lv_iload_n hx hb dX13_readTeller_96 rfl (lv_at hl 2 rfl) ?_
                  refine lv_iconst (v := 1) hx hb dX13_readTeller_97 rfl ?_
                  refine lv_iload_n hx hb dX13_readTeller_98 rfl (lv_at hl 0 rfl) ?_
                  refine lv_ishl hx hb dX13_readTeller_99 ?_
                  refine lv_ior hx hb dX13_readTeller_100 ?_
                  refine lv_istore_n (lv' := [(1, .int (y8_1 ||| (1 <<< (z21.1 &&& 31)))), (3, .int z21.1), (0, .ref (ad y8_0)), (2, .int y8_2)]) hx hb dX13_readTeller_101 rfl hl (by decide) rfl (fun ls hl => ?_)
                  refine lv_aload_n hx hb dX13_readTeller_102 rfl (lv_at hl 2 rfl) ?_
                  refine lv_bipush (v := 44) hx hb dX13_readTeller_103 rfl ?_
                  obtain ⟨z25, h25, h⟩ := ob_some h
                  refine k_z (va_runV (As := [.int 44]) (rest := []) ⟨hx, hb, hml, hown, hts⟩ (c_X13_eatsSign (l := l) z23 y8_0 44 ky8_0 h25) (cwV 1 hts gX13_readTeller_X13_eatsSign rfl rfl rfl hdV_X13_eatsSign ⟨Nat.le_of_ble_eq_true rfl, Nat.le_of_ble_eq_true rfl⟩) (pV (T := TX13) hP hK hD hT hG hS ky8_0 (by decide) rfl) rfl rfl hl.1 rfl (lv_room (Nat.le_of_ble_eq_true rfl)) dX13_readTeller_105 ⟨Nat.zero_le _, Nat.zero_le _⟩) hS (fun H locs hz25 hP hD hT hS => ?_)
                  refine lv_istore_n (lv' := [(2, .int z25.1), (1, .int (y8_1 ||| (1 <<< (z21.1 &&& 31)))), (3, .int z21.1), (0, .ref (ad y8_0))]) hx hb dX13_readTeller_108 rfl hl (by decide) rfl (fun ls hl => ?_)
                  refine lv_goto (tgt := 59) hx hb dX13_readTeller_109 rfl ?_
                  exact ih8 z25.2 y8_0 (y8_1 ||| (1 <<< (z21.1 &&& 31))) z25.1 ky8_0 _ _ h hP hD hT hS ls (lv_sub hl [3, 1, 0] rfl)
                · replace h := ite_t c24 h
                  exact r_vret hx hb hr hlocks hP hK hD hT hG hS (Option.some.inj h) dX13_readTeller_95
              · replace h := ite_t c22 h
                refine lv_aload_n hx hb dX13_readTeller_78 rfl (lv_at hl 1 rfl) ?_
                refine lv_iconst (v := 3) hx hb dX13_readTeller_79 rfl ?_
                obtain ⟨z26, h26, h⟩ := ob_some h
                refine k_v (va_runV (As := [.int 3]) (rest := []) ⟨hx, hb, hml, hown, hts⟩ (c_X13_wrong (l := l) z21.2 y8_0 3 ky8_0 h26) (cwV 1 hts gX13_readTeller_X13_wrong rfl rfl rfl hdV_X13_wrong ⟨Nat.le_of_ble_eq_true rfl, Nat.le_of_ble_eq_true rfl⟩) (pV (T := TX13) hP hK hD hT hG hS ky8_0 (by decide) rfl) rfl rfl hl.1 rfl (lv_room (Nat.le_of_ble_eq_true rfl)) dX13_readTeller_80 ⟨Nat.zero_le _, Nat.zero_le _⟩) hS (fun H locs hP hD hT hS => ?_)
                refine lv_aload_n hx hb dX13_readTeller_83 rfl (lv_at hl 1 rfl) ?_
                obtain ⟨z27, h27, h⟩ := ob_some h
                refine k_v (va_runV (As := []) (rest := []) ⟨hx, hb, hml, hown, hts⟩ (c_X13_goesOn (l := l) z26 y8_0 ky8_0 h27) (cwV 0 hts gX13_readTeller_X13_goesOn rfl rfl rfl hdV_X13_goesOn ⟨Nat.le_of_ble_eq_true rfl, Nat.le_of_ble_eq_true rfl⟩) (pV (T := TX13) hP hK hD hT hG hS ky8_0 (by decide) rfl) rfl rfl hl.1 rfl (lv_room (Nat.le_of_ble_eq_true rfl)) dX13_readTeller_84 ⟨Nat.zero_le _, Nat.zero_le _⟩) hS (fun H locs hP hD hT hS => ?_)
                refine lv_aload_n hx hb dX13_readTeller_87 rfl (lv_at hl 1 rfl) ?_
                refine r_get (T := TX13) (v := .int (gI z27 y8_0 9)) hx hb hts in13 hown hK hP ky8_0 (by decide) rfl 9 (by decide) (hts (.fieldLink RX13 58 "StoneWalkModel" "sort" "I") (List.mem_of_getElem? (i := 2) (by decide +kernel))) rfl (t := 0) rfl rfl dX13_readTeller_88 ?_
                refine lv_iconst (v := 5) hx hb dX13_readTeller_91 rfl ?_
                refine lv_icmp_ne (tgt := 96) hx hb dX13_readTeller_92 rfl (fun c28 => ?_) (fun c28 => ?_)
                · replace h := ite_f c28 h
                  refine lv_iload_n hx hb dX13_readTeller_96 rfl (lv_at hl 2 rfl) ?_
                  refine lv_iconst (v := 1) hx hb dX13_readTeller_97 rfl ?_
                  refine lv_iload_n hx hb dX13_readTeller_98 rfl (lv_at hl 0 rfl) ?_
                  refine lv_ishl hx hb dX13_readTeller_99 ?_
                  refine lv_ior hx hb dX13_readTeller_100 ?_
                  refine lv_istore_n (lv' := [(1, .int (y8_1 ||| (1 <<< (z21.1 &&& 31)))), (3, .int z21.1), (0, .ref (ad y8_0)), (2, .int y8_2)]) hx hb dX13_readTeller_101 rfl hl (by decide) rfl (fun ls hl => ?_)
                  refine lv_aload_n hx hb dX13_readTeller_102 rfl (lv_at hl 2 rfl) ?_
                  refine lv_bipush (v := 44) hx hb dX13_readTeller_103 rfl ?_
                  obtain ⟨z29, h29, h⟩ := ob_some h
                  refine k_z (va_runV (As := [.int 44]) (rest := []) ⟨hx, hb, hml, hown, hts⟩ (c_X13_eatsSign (l := l) z27 y8_0 44 ky8_0 h29) (cwV 1 hts gX13_readTeller_X13_eatsSign rfl rfl rfl hdV_X13_eatsSign ⟨Nat.le_of_ble_eq_true rfl, Nat.le_of_ble_eq_true rfl⟩) (pV (T := TX13) hP hK hD hT hG hS ky8_0 (by decide) rfl) rfl rfl hl.1 rfl (lv_room (Nat.le_of_ble_eq_true rfl)) dX13_readTeller_105 ⟨Nat.zero_le _, Nat.zero_le _⟩) hS (fun H locs hz29 hP hD hT hS => ?_)
                  refine lv_istore_n (lv' := [(2, .int z29.1), (1, .int (y8_1 ||| (1 <<< (z21.1 &&& 31)))), (3, .int z21.1), (0, .ref (ad y8_0))]) hx hb dX13_readTeller_108 rfl hl (by decide) rfl (fun ls hl => ?_)
                  refine lv_goto (tgt := 59) hx hb dX13_readTeller_109 rfl ?_
                  exact ih8 z29.2 y8_0 (y8_1 ||| (1 <<< (z21.1 &&& 31))) z29.1 ky8_0 _ _ h hP hD hT hS ls (lv_sub hl [3, 1, 0] rfl)
                · replace h := ite_t c28 h
                  exact r_vret hx hb hr hlocks hP hK hD hT hG hS (Option.some.inj h) dX13_readTeller_95
        exact L8 FU z6 a0 0 0 k0 _ _ h hP hD hT hS ls (lv_sub hl [2, 1, 0] rfl)
      · replace h := ite_f c7 h
        refine lv_iconst (v := 1) hx hb dX13_readTeller_53 rfl ?_
        refine lv_goto (tgt := 58) hx hb dX13_readTeller_54 rfl ?_
        refine lv_istore_n (lv' := [(2, .int 1), (1, .int 0), (0, .ref (ad a0))]) hx hb dX13_readTeller_58 rfl hl (by decide) rfl (fun ls hl => ?_)
        have L30 : ∀ n30 : Nat, ∀ (M30 : MM) (y30_0 : Nat) (y30_1 : Int32) (y30_2 : Int32) (ky30_0 : ok g y30_0 13 0) (H : Heap) (locs : List Loc), f_X13_readTeller_L59_1 n30 M30 y30_0 y30_1 y30_2 = some Z → va_P D vwCl (wd ad cy g M30) H → va_D A (wd ad cy g M30) → WT g M30 → va_S A s.heap H locs → ∀ (ls : Array Slot), lv_has ls 4 [(0, .ref (ad y30_0)), (1, .int y30_1), (2, .int y30_2)] → W p l e ((headSpec wsX13_readTeller ({ frames := 8, cells := 0, slots := 0, locals := 173 })).room) s m (([.ref (ad a0)] : List Value).toArray) below meth c H locs 0 0 (MQ below (va_Qv (fun u => u = Z) (Wd D ad cy A g q) A) ([.ref (ad a0)]).toArray s 0 0 A) (F0 m 59 ls []) := by
          intro n30
          induction n30 with
          | zero => intro M30 y30_0 y30_1 y30_2 ky30_0 H locs h; exact absurd h (by simp [f_X13_readTeller_L59_1])
          | succ n30 ih30 =>
            intro M30 y30_0 y30_1 y30_2 ky30_0 H locs h hP hD hT hS ls hl
            rw [f_X13_readTeller_L59_1] at h
            refine lv_iload_n hx hb dX13_readTeller_59 rfl (lv_at hl 2 rfl) ?_
            refine lv_if_eq (tgt := 112) hx hb dX13_readTeller_60 rfl (fun c31 => ?_) (fun c31 => ?_)
            · replace h := ite_t c31 h
              refine lv_aload_n hx hb dX13_readTeller_112 rfl (lv_at hl 0 rfl) ?_
              refine r_ldcS (tx := "stranger") (i := 23) hx hb hG hown (by decide +kernel) dX13_readTeller_113 ?_
              obtain ⟨z32, h32, h⟩ := ob_some h
              refine k_z (va_runV (As := [.ref (q.2.1 23)]) (rest := []) ⟨hx, hb, hml, hown, hts⟩ (c_X13_eatsWord (l := l) M30 y30_0 23 ky30_0 (by decide) h32) (cwV 1 hts gX13_readTeller_X13_eatsWord rfl rfl rfl hdV_X13_eatsWord ⟨Nat.le_of_ble_eq_true rfl, Nat.le_of_ble_eq_true rfl⟩) (pV (T := TX13) hP hK hD hT hG hS ky30_0 (by decide) rfl) rfl rfl hl.1 rfl (lv_room (Nat.le_of_ble_eq_true rfl)) dX13_readTeller_115 ⟨Nat.zero_le _, Nat.zero_le _⟩) hS (fun H locs hz32 hP hD hT hS => ?_)
              refine lv_istore_n (lv' := [(3, .int z32.1), (0, .ref (ad y30_0)), (1, .int y30_1), (2, .int y30_2)]) hx hb dX13_readTeller_118 rfl hl (by decide) rfl (fun ls hl => ?_)
              refine lv_aload_n hx hb dX13_readTeller_119 rfl (lv_at hl 1 rfl) ?_
              refine r_get (T := TX13) (v := .int (gI z32.2 y30_0 9)) hx hb hts in13 hown hK hP ky30_0 (by decide) rfl 9 (by decide) (hts (.fieldLink RX13 58 "StoneWalkModel" "sort" "I") (List.mem_of_getElem? (i := 2) (by decide +kernel))) rfl (t := 0) rfl rfl dX13_readTeller_120 ?_
              refine lv_iconst (v := 5) hx hb dX13_readTeller_123 rfl ?_
              refine lv_icmp_ne (tgt := 128) hx hb dX13_readTeller_124 rfl (fun c33 => ?_) (fun c33 => ?_)
              · replace h := ite_f c33 h
                refine lv_aload_n hx hb dX13_readTeller_128 rfl (lv_at hl 1 rfl) ?_
                rcases hN34 : gR z32.2 y30_0 4 with _ | b34
                · replace h := oc_n hN34 h
                  refine r_get (T := TX13) (v := .null) hx hb hts in13 hown hK hP ky30_0 (by decide) rfl 4 (by decide) (hts (.fieldLink RX13 150 "StoneWalkModel" "read" "LStoneWalkModel$Island;") (List.mem_of_getElem? (i := 1) (by decide +kernel))) rfl (t := 2) rfl (by show va_rf _ = _; rw [hN34]; rfl) dX13_readTeller_129 ?_
                  exact absurd h (by simp)
                · replace h := oc_s hN34 h
                  have kb34 := hT.f ky30_0 (k := 4) (t := 12) (n := 0) rfl hN34
                  refine r_get (T := TX13) (v := .ref (ad b34)) hx hb hts in13 hown hK hP ky30_0 (by decide) rfl 4 (by decide) (hts (.fieldLink RX13 150 "StoneWalkModel" "read" "LStoneWalkModel$Island;") (List.mem_of_getElem? (i := 1) (by decide +kernel))) rfl (t := 2) rfl (by show va_rf _ = _; rw [hN34]; rfl) dX13_readTeller_129 ?_
                  rcases hN35 : gR z32.2 b34 39 with _ | b35
                  · exact absurd (oc_n hN35 h) (by simp)
                  replace h := oc_s hN35 h
                  have kb35 := hT.f kb34 (k := 39) (t := 15) (n := 3) rfl hN35
                  refine r_getN (T := TX12) (v := .ref (ad b35)) hx hb hts in12 hown hK hP kb34 (by decide) rfl 39 (by decide) (hG.2.2.1 ("StoneWalkModel", 403, "StoneWalkModel$Island", "means", "[I", "StoneWalkModel") (List.mem_of_getElem? (i := 42) rfl)) rfl (t := 2) rfl (by show va_rf _ = _; rw [hN35]; rfl) dX13_readTeller_132 ?_
                  refine lv_aload_n hx hb dX13_readTeller_135 rfl (lv_at hl 1 rfl) ?_
                  rcases hN36 : gR z32.2 y30_0 4 with _ | b36
                  · replace h := oc_n hN36 h
                    refine r_get (T := TX13) (v := .null) hx hb hts in13 hown hK hP ky30_0 (by decide) rfl 4 (by decide) (hts (.fieldLink RX13 150 "StoneWalkModel" "read" "LStoneWalkModel$Island;") (List.mem_of_getElem? (i := 1) (by decide +kernel))) rfl (t := 2) rfl (by show va_rf _ = _; rw [hN36]; rfl) dX13_readTeller_136 ?_
                    exact absurd h (by simp)
                  · replace h := oc_s hN36 h
                    have kb36 := hT.f ky30_0 (k := 4) (t := 12) (n := 0) rfl hN36
                    refine r_get (T := TX13) (v := .ref (ad b36)) hx hb hts in13 hown hK hP ky30_0 (by decide) rfl 4 (by decide) (hts (.fieldLink RX13 150 "StoneWalkModel" "read" "LStoneWalkModel$Island;") (List.mem_of_getElem? (i := 1) (by decide +kernel))) rfl (t := 2) rfl (by show va_rf _ = _; rw [hN36]; rfl) dX13_readTeller_136 ?_
                    refine r_getN (T := TX12) (v := .int (gI z32.2 b36 6)) hx hb hts in12 hown hK hP kb36 (by decide) rfl 6 (by decide) (hG.2.2.1 ("StoneWalkModel", 393, "StoneWalkModel$Island", "tellers", "I", "StoneWalkModel") (List.mem_of_getElem? (i := 41) rfl)) rfl (t := 0) rfl rfl dX13_readTeller_139 ?_
                    refine lv_iload_n hx hb dX13_readTeller_142 rfl (lv_at hl 2 rfl) ?_
                    obtain ⟨hn37, h⟩ := chk_some h
                    refine r_iast hx hb hK hP hD hT hS kb35 hn37 dX13_readTeller_143 (fun H locs hP hD hT hS => ?_)
                    generalize pI z32.2 b35 (ix (gI z32.2 b36 6)) y30_1 = Mg4 at h hP hD hT ⊢
                    refine lv_aload_n hx hb dX13_readTeller_144 rfl (lv_at hl 1 rfl) ?_
                    rcases hN38 : gR Mg4 y30_0 4 with _ | b38
                    · replace h := oc_n hN38 h
                      refine r_get (T := TX13) (v := .null) hx hb hts in13 hown hK hP ky30_0 (by decide) rfl 4 (by decide) (hts (.fieldLink RX13 150 "StoneWalkModel" "read" "LStoneWalkModel$Island;") (List.mem_of_getElem? (i := 1) (by decide +kernel))) rfl (t := 2) rfl (by show va_rf _ = _; rw [hN38]; rfl) dX13_readTeller_145 ?_
                      exact absurd h (by simp)
                    · replace h := oc_s hN38 h
                      have kb38 := hT.f ky30_0 (k := 4) (t := 12) (n := 0) rfl hN38
                      refine r_get (T := TX13) (v := .ref (ad b38)) hx hb hts in13 hown hK hP ky30_0 (by decide) rfl 4 (by decide) (hts (.fieldLink RX13 150 "StoneWalkModel" "read" "LStoneWalkModel$Island;") (List.mem_of_getElem? (i := 1) (by decide +kernel))) rfl (t := 2) rfl (by show va_rf _ = _; rw [hN38]; rfl) dX13_readTeller_145 ?_
                      rcases hN39 : gR Mg4 b38 44 with _ | b39
                      · exact absurd (oc_n hN39 h) (by simp)
                      replace h := oc_s hN39 h
                      have kb39 := hT.f kb38 (k := 44) (t := 17) (n := 3) rfl hN39
                      refine r_getN (T := TX12) (v := .ref (ad b39)) hx hb hts in12 hown hK hP kb38 (by decide) rfl 44 (by decide) (hG.2.2.1 ("StoneWalkModel", 405, "StoneWalkModel$Island", "isStranger", "[Z", "StoneWalkModel") (List.mem_of_getElem? (i := 43) rfl)) rfl (t := 2) rfl (by show va_rf _ = _; rw [hN39]; rfl) dX13_readTeller_148 ?_
                      refine lv_aload_n hx hb dX13_readTeller_151 rfl (lv_at hl 1 rfl) ?_
                      rcases hN40 : gR Mg4 y30_0 4 with _ | b40
                      · replace h := oc_n hN40 h
                        refine r_get (T := TX13) (v := .null) hx hb hts in13 hown hK hP ky30_0 (by decide) rfl 4 (by decide) (hts (.fieldLink RX13 150 "StoneWalkModel" "read" "LStoneWalkModel$Island;") (List.mem_of_getElem? (i := 1) (by decide +kernel))) rfl (t := 2) rfl (by show va_rf _ = _; rw [hN40]; rfl) dX13_readTeller_152 ?_
                        exact absurd h (by simp)
                      · replace h := oc_s hN40 h
                        have kb40 := hT.f ky30_0 (k := 4) (t := 12) (n := 0) rfl hN40
                        refine r_get (T := TX13) (v := .ref (ad b40)) hx hb hts in13 hown hK hP ky30_0 (by decide) rfl 4 (by decide) (hts (.fieldLink RX13 150 "StoneWalkModel" "read" "LStoneWalkModel$Island;") (List.mem_of_getElem? (i := 1) (by decide +kernel))) rfl (t := 2) rfl (by show va_rf _ = _; rw [hN40]; rfl) dX13_readTeller_152 ?_
                        refine r_getN (T := TX12) (v := .int (gI Mg4 b40 6)) hx hb hts in12 hown hK hP kb40 (by decide) rfl 6 (by decide) (hG.2.2.1 ("StoneWalkModel", 393, "StoneWalkModel$Island", "tellers", "I", "StoneWalkModel") (List.mem_of_getElem? (i := 41) rfl)) rfl (t := 0) rfl rfl dX13_readTeller_155 ?_
                        refine lv_iload_n hx hb dX13_readTeller_158 rfl (lv_at hl 0 rfl) ?_
                        obtain ⟨hn41, h⟩ := chk_some h
                        refine r_zast hx hb hK hP hD hT hS kb39 hn41 hz32 dX13_readTeller_159 (fun H locs hP hD hT hS => ?_)
                        generalize pI Mg4 b39 (ix (gI Mg4 b40 6)) z32.1 = Mg5 at h hP hD hT ⊢
                        refine lv_aload_n hx hb dX13_readTeller_160 rfl (lv_at hl 1 rfl) ?_
                        rcases hN42 : gR Mg5 y30_0 4 with _ | b42
                        · replace h := oc_n hN42 h
                          refine r_get (T := TX13) (v := .null) hx hb hts in13 hown hK hP ky30_0 (by decide) rfl 4 (by decide) (hts (.fieldLink RX13 150 "StoneWalkModel" "read" "LStoneWalkModel$Island;") (List.mem_of_getElem? (i := 1) (by decide +kernel))) rfl (t := 2) rfl (by show va_rf _ = _; rw [hN42]; rfl) dX13_readTeller_161 ?_
                          refine lv_dup hx hb dX13_readTeller_164 rfl ?_
                          exact absurd h (by simp)
                        · replace h := oc_s hN42 h
                          have kb42 := hT.f ky30_0 (k := 4) (t := 12) (n := 0) rfl hN42
                          refine r_get (T := TX13) (v := .ref (ad b42)) hx hb hts in13 hown hK hP ky30_0 (by decide) rfl 4 (by decide) (hts (.fieldLink RX13 150 "StoneWalkModel" "read" "LStoneWalkModel$Island;") (List.mem_of_getElem? (i := 1) (by decide +kernel))) rfl (t := 2) rfl (by show va_rf _ = _; rw [hN42]; rfl) dX13_readTeller_161 ?_
                          refine lv_dup hx hb dX13_readTeller_164 rfl ?_
                          refine r_getN (T := TX12) (v := .int (gI Mg5 b42 6)) hx hb hts in12 hown hK hP kb42 (by decide) rfl 6 (by decide) (hG.2.2.1 ("StoneWalkModel", 393, "StoneWalkModel$Island", "tellers", "I", "StoneWalkModel") (List.mem_of_getElem? (i := 41) rfl)) rfl (t := 0) rfl rfl dX13_readTeller_165 ?_
                          refine lv_iconst (v := 1) hx hb dX13_readTeller_168 rfl ?_
                          refine lv_iadd hx hb dX13_readTeller_169 ?_
                          refine r_putIN (T := TX12) (ty := .int) (v := (gI Mg5 b42 6) + 1) hx hb hts in12 tyX12 tyX12_ok nmX12 hown hK hP hD hT hS kb42 (by decide) rfl 6 (by decide) (hG.2.2.1 ("StoneWalkModel", 393, "StoneWalkModel$Island", "tellers", "I", "StoneWalkModel") (List.mem_of_getElem? (i := 41) rfl)) rfl rfl (tyX12_ok 6 (by decide)) rfl rfl rfl dX13_readTeller_170 (fun H locs hP hD hT hS => ?_)
                          generalize pI Mg5 b42 6 ((gI Mg5 b42 6) + 1) = Mg6 at h hP hD hT ⊢
                          exact r_vret hx hb hr hlocks hP hK hD hT hG hS (Option.some.inj h) dX13_readTeller_173
              · replace h := ite_t c33 h
                exact r_vret hx hb hr hlocks hP hK hD hT hG hS (Option.some.inj h) dX13_readTeller_127
            · replace h := ite_f c31 h
              refine lv_aload_n hx hb dX13_readTeller_63 rfl (lv_at hl 0 rfl) ?_
              refine lv_iconst (v := 0) hx hb dX13_readTeller_64 rfl ?_
              obtain ⟨z43, h43, h⟩ := ob_some h
              refine k_i (va_runV (As := [.int 0]) (rest := []) ⟨hx, hb, hml, hown, hts⟩ (c_X13_known (l := l) M30 y30_0 0 ky30_0 h43) (cwV 1 hts gX13_readTeller_X13_known rfl rfl rfl hdV_X13_known ⟨Nat.le_of_ble_eq_true rfl, Nat.le_of_ble_eq_true rfl⟩) (pV (T := TX13) hP hK hD hT hG hS ky30_0 (by decide) rfl) rfl rfl hl.1 rfl (lv_room (Nat.le_of_ble_eq_true rfl)) dX13_readTeller_65 ⟨Nat.zero_le _, Nat.zero_le _⟩) hS (fun H locs hP hD hT hS => ?_)
              refine lv_istore_n (lv' := [(3, .int z43.1), (0, .ref (ad y30_0)), (1, .int y30_1), (2, .int y30_2)]) hx hb dX13_readTeller_68 rfl hl (by decide) rfl (fun ls hl => ?_)
              refine lv_iload_n hx hb dX13_readTeller_69 rfl (lv_at hl 2 rfl) ?_
              refine lv_iload_n hx hb dX13_readTeller_70 rfl (lv_at hl 0 rfl) ?_
              refine lv_ishr hx hb dX13_readTeller_71 ?_
              refine lv_iconst (v := 1) hx hb dX13_readTeller_72 rfl ?_
              refine lv_iand hx hb dX13_readTeller_73 ?_
              refine lv_iconst (v := 1) hx hb dX13_readTeller_74 rfl ?_
              refine lv_icmp_ne (tgt := 83) hx hb dX13_readTeller_75 rfl (fun c44 => ?_) (fun c44 => ?_)
              · replace h := ite_f c44 h
                refine lv_aload_n hx hb dX13_readTeller_83 rfl (lv_at hl 1 rfl) ?_
                obtain ⟨z45, h45, h⟩ := ob_some h
                refine k_v (va_runV (As := []) (rest := []) ⟨hx, hb, hml, hown, hts⟩ (c_X13_goesOn (l := l) z43.2 y30_0 ky30_0 h45) (cwV 0 hts gX13_readTeller_X13_goesOn rfl rfl rfl hdV_X13_goesOn ⟨Nat.le_of_ble_eq_true rfl, Nat.le_of_ble_eq_true rfl⟩) (pV (T := TX13) hP hK hD hT hG hS ky30_0 (by decide) rfl) rfl rfl hl.1 rfl (lv_room (Nat.le_of_ble_eq_true rfl)) dX13_readTeller_84 ⟨Nat.zero_le _, Nat.zero_le _⟩) hS (fun H locs hP hD hT hS => ?_)
                refine lv_aload_n hx hb dX13_readTeller_87 rfl (lv_at hl 1 rfl) ?_
                refine r_get (T := TX13) (v := .int (gI z45 y30_0 9)) hx hb hts in13 hown hK hP ky30_0 (by decide) rfl 9 (by decide) (hts (.fieldLink RX13 58 "StoneWalkModel" "sort" "I") (List.mem_of_getElem? (i := 2) (by decide +kernel))) rfl (t := 0) rfl rfl dX13_readTeller_88 ?_
                refine lv_iconst (v := 5) hx hb dX13_readTeller_91 rfl ?_
                refine lv_icmp_ne (tgt := 96) hx hb dX13_readTeller_92 rfl (fun c46 => ?_) (fun c46 => ?_)
                · replace h := ite_f c46 h
                  refine lv_iload_n hx hb dX13_readTeller_96 rfl (lv_at hl 2 rfl) ?_
                  refine lv_iconst (v := 1) hx hb dX13_readTeller_97 rfl ?_
                  refine lv_iload_n hx hb dX13_readTeller_98 rfl (lv_at hl 0 rfl) ?_
                  refine lv_ishl hx hb dX13_readTeller_99 ?_
                  refine lv_ior hx hb dX13_readTeller_100 ?_
                  refine lv_istore_n (lv' := [(1, .int (y30_1 ||| (1 <<< (z43.1 &&& 31)))), (3, .int z43.1), (0, .ref (ad y30_0)), (2, .int y30_2)]) hx hb dX13_readTeller_101 rfl hl (by decide) rfl (fun ls hl => ?_)
                  refine lv_aload_n hx hb dX13_readTeller_102 rfl (lv_at hl 2 rfl) ?_
                  refine lv_bipush (v := 44) hx hb dX13_readTeller_103 rfl ?_
                  obtain ⟨z47, h47, h⟩ := ob_some h
                  refine k_z (va_runV (As := [.int 44]) (rest := []) ⟨hx, hb, hml, hown, hts⟩ (c_X13_eatsSign (l := l) z45 y30_0 44 ky30_0 h47) (cwV 1 hts gX13_readTeller_X13_eatsSign rfl rfl rfl hdV_X13_eatsSign ⟨Nat.le_of_ble_eq_true rfl, Nat.le_of_ble_eq_true rfl⟩) (pV (T := TX13) hP hK hD hT hG hS ky30_0 (by decide) rfl) rfl rfl hl.1 rfl (lv_room (Nat.le_of_ble_eq_true rfl)) dX13_readTeller_105 ⟨Nat.zero_le _, Nat.zero_le _⟩) hS (fun H locs hz47 hP hD hT hS => ?_)
                  refine lv_istore_n (lv' := [(2, .int z47.1), (1, .int (y30_1 ||| (1 <<< (z43.1 &&& 31)))), (3, .int z43.1), (0, .ref (ad y30_0))]) hx hb dX13_readTeller_108 rfl hl (by decide) rfl (fun ls hl => ?_)
                  refine lv_goto (tgt := 59) hx hb dX13_readTeller_109 rfl ?_
                  exact ih30 z47.2 y30_0 (y30_1 ||| (1 <<< (z43.1 &&& 31))) z47.1 ky30_0 _ _ h hP hD hT hS ls (lv_sub hl [3, 1, 0] rfl)
                · replace h := ite_t c46 h
                  exact r_vret hx hb hr hlocks hP hK hD hT hG hS (Option.some.inj h) dX13_readTeller_95
              · replace h := ite_t c44 h
                refine lv_aload_n hx hb dX13_readTeller_78 rfl (lv_at hl 1 rfl) ?_
                refine lv_iconst (v := 3) hx hb dX13_readTeller_79 rfl ?_
                obtain ⟨z48, h48, h⟩ := ob_some h
                refine k_v (va_runV (As := [.int 3]) (rest := []) ⟨hx, hb, hml, hown, hts⟩ (c_X13_wrong (l := l) z43.2 y30_0 3 ky30_0 h48) (cwV 1 hts gX13_readTeller_X13_wrong rfl rfl rfl hdV_X13_wrong ⟨Nat.le_of_ble_eq_true rfl, Nat.le_of_ble_eq_true rfl⟩) (pV (T := TX13) hP hK hD hT hG hS ky30_0 (by decide) rfl) rfl rfl hl.1 rfl (lv_room (Nat.le_of_ble_eq_true rfl)) dX13_readTeller_80 ⟨Nat.zero_le _, Nat.zero_le _⟩) hS (fun H locs hP hD hT hS => ?_)
                refine lv_aload_n hx hb dX13_readTeller_83 rfl (lv_at hl 1 rfl) ?_
                obtain ⟨z49, h49, h⟩ := ob_some h
                refine k_v (va_runV (As := []) (rest := []) ⟨hx, hb, hml, hown, hts⟩ (c_X13_goesOn (l := l) z48 y30_0 ky30_0 h49) (cwV 0 hts gX13_readTeller_X13_goesOn rfl rfl rfl hdV_X13_goesOn ⟨Nat.le_of_ble_eq_true rfl, Nat.le_of_ble_eq_true rfl⟩) (pV (T := TX13) hP hK hD hT hG hS ky30_0 (by decide) rfl) rfl rfl hl.1 rfl (lv_room (Nat.le_of_ble_eq_true rfl)) dX13_readTeller_84 ⟨Nat.zero_le _, Nat.zero_le _⟩) hS (fun H locs hP hD hT hS => ?_)
                refine lv_aload_n hx hb dX13_readTeller_87 rfl (lv_at hl 1 rfl) ?_
                refine r_get (T := TX13) (v := .int (gI z49 y30_0 9)) hx hb hts in13 hown hK hP ky30_0 (by decide) rfl 9 (by decide) (hts (.fieldLink RX13 58 "StoneWalkModel" "sort" "I") (List.mem_of_getElem? (i := 2) (by decide +kernel))) rfl (t := 0) rfl rfl dX13_readTeller_88 ?_
                refine lv_iconst (v := 5) hx hb dX13_readTeller_91 rfl ?_
                refine lv_icmp_ne (tgt := 96) hx hb dX13_readTeller_92 rfl (fun c50 => ?_) (fun c50 => ?_)
                · replace h := ite_f c50 h
                  refine lv_iload_n hx hb dX13_readTeller_96 rfl (lv_at hl 2 rfl) ?_
                  refine lv_iconst (v := 1) hx hb dX13_readTeller_97 rfl ?_
                  refine lv_iload_n hx hb dX13_readTeller_98 rfl (lv_at hl 0 rfl) ?_
                  refine lv_ishl hx hb dX13_readTeller_99 ?_
                  refine lv_ior hx hb dX13_readTeller_100 ?_
                  refine lv_istore_n (lv' := [(1, .int (y30_1 ||| (1 <<< (z43.1 &&& 31)))), (3, .int z43.1), (0, .ref (ad y30_0)), (2, .int y30_2)]) hx hb dX13_readTeller_101 rfl hl (by decide) rfl (fun ls hl => ?_)
                  refine lv_aload_n hx hb dX13_readTeller_102 rfl (lv_at hl 2 rfl) ?_
                  refine lv_bipush (v := 44) hx hb dX13_readTeller_103 rfl ?_
                  obtain ⟨z51, h51, h⟩ := ob_some h
                  refine k_z (va_runV (As := [.int 44]) (rest := []) ⟨hx, hb, hml, hown, hts⟩ (c_X13_eatsSign (l := l) z49 y30_0 44 ky30_0 h51) (cwV 1 hts gX13_readTeller_X13_eatsSign rfl rfl rfl hdV_X13_eatsSign ⟨Nat.le_of_ble_eq_true rfl, Nat.le_of_ble_eq_true rfl⟩) (pV (T := TX13) hP hK hD hT hG hS ky30_0 (by decide) rfl) rfl rfl hl.1 rfl (lv_room (Nat.le_of_ble_eq_true rfl)) dX13_readTeller_105 ⟨Nat.zero_le _, Nat.zero_le _⟩) hS (fun H locs hz51 hP hD hT hS => ?_)
                  refine lv_istore_n (lv' := [(2, .int z51.1), (1, .int (y30_1 ||| (1 <<< (z43.1 &&& 31)))), (3, .int z43.1), (0, .ref (ad y30_0))]) hx hb dX13_readTeller_108 rfl hl (by decide) rfl (fun ls hl => ?_)
                  refine lv_goto (tgt := 59) hx hb dX13_readTeller_109 rfl ?_
                  exact ih30 z51.2 y30_0 (y30_1 ||| (1 <<< (z43.1 &&& 31))) z51.1 ky30_0 _ _ h hP hD hT hS ls (lv_sub hl [3, 1, 0] rfl)
                · replace h := ite_t c50 h
                  exact r_vret hx hb hr hlocks hP hK hD hT hG hS (Option.some.inj h) dX13_readTeller_95
        exact L30 FU z6 a0 0 1 k0 _ _ h hP hD hT hS ls (lv_sub hl [2, 1, 0] rfl)
set_option maxHeartbeats 4000000 in
set_option maxRecDepth 100000 in
theorem c_X13_readTry {l : Launch} {D : va_G} {ad : Nat → Nat} {cy : Nat → ClassId} {A : Nat → Prop} {g : CG} {q : SE} (M : MM) (a0 : Nat) (k0 : ok g a0 13 0) {Z : MM} (h : f_X13_readTry M a0 = some Z) : Met l yX13_readTry wsX13_readTry ({ frames := 8, cells := 0, slots := 0, locals := 173 }) (va_Pc [.ref (ad a0)] (Wd D ad cy A g q M)) (va_Qv (fun u => u = Z) (Wd D ad cy A g q) A) 0 0 A := by
  refine Met.ofW (cc := cX13_readTry) (maxL := 5) (ret := none) (by decide) rfl ?_
  intro p e s m args below meth c s₁ B hml hv
  obtain ⟨rfl, hP, hK, hD, hT, hG⟩ := hv
  have hx := B.exec
  have hb := B.bytes
  have hr := B.returns
  have hts := atoms_spec (ws := wsX13_readTry) B.pre
  have hown : s.vm.findClass RX13 = some m.cls := findClass_of_methodNamed B.named
  have hlocks := B.notSynchronized
  have in12 : ∀ w ∈ u_ws RX12 TX12 48, w ∈ wsX13_readTry := fun w h => List.mem_cons_of_mem _ (List.mem_append_right _ h)
  have in13 : ∀ w ∈ u_ws RX13 TX13 29, w ∈ wsX13_readTry := fun w h => List.mem_cons_of_mem _ (List.mem_append_left _ (List.mem_append_right _ h))
  have hS : va_S A s.heap s.heap [] := va_S.rf
  have hl := lv_entry ([.ref (ad a0)]) (n := 5) (Nat.le_of_ble_eq_true rfl)
  rw [lg_entry_eq]
  generalize (lg_sl ([.ref (ad a0)]) ++ List.replicate (5 - (lg_sl ([.ref (ad a0)])).length) Slot.unset).toArray = ls at hl ⊢
  have hl : lv_has ls 5 [(0, .ref (ad a0))] := hl
  unfold f_X13_readTry at h
  refine lv_aload_n hx hb dX13_readTry_0 rfl (lv_at hl 0 rfl) ?_
  refine lv_aload_n hx hb dX13_readTry_1 rfl (lv_at hl 0 rfl) ?_
  rcases hN1 : gR M a0 4 with _ | b1
  · replace h := oc_n hN1 h
    refine r_get (T := TX13) (v := .null) hx hb hts in13 hown hK hP k0 (by decide) rfl 4 (by decide) (hts (.fieldLink RX13 150 "StoneWalkModel" "read" "LStoneWalkModel$Island;") (List.mem_of_getElem? (i := 1) (by decide +kernel))) rfl (t := 2) rfl (by show va_rf _ = _; rw [hN1]; rfl) dX13_readTry_2 ?_
    exact absurd h (by simp)
  · replace h := oc_s hN1 h
    have kb1 := hT.f k0 (k := 4) (t := 12) (n := 0) rfl hN1
    refine r_get (T := TX13) (v := .ref (ad b1)) hx hb hts in13 hown hK hP k0 (by decide) rfl 4 (by decide) (hts (.fieldLink RX13 150 "StoneWalkModel" "read" "LStoneWalkModel$Island;") (List.mem_of_getElem? (i := 1) (by decide +kernel))) rfl (t := 2) rfl (by show va_rf _ = _; rw [hN1]; rfl) dX13_readTry_2 ?_
    refine r_getN (T := TX12) (v := .int (gI M b1 7)) hx hb hts in12 hown hK hP kb1 (by decide) rfl 7 (by decide) (hG.2.2.1 ("StoneWalkModel", 409, "StoneWalkModel$Island", "tries", "I", "StoneWalkModel") (List.mem_of_getElem? (i := 44) rfl)) rfl (t := 0) rfl rfl dX13_readTry_5 ?_
    refine lv_iconst (v := 5) hx hb dX13_readTry_8 rfl ?_
    obtain ⟨z2, h2, h⟩ := ob_some h
    refine k_v (va_runV (As := [.int (gI M b1 7), .int 5]) (rest := []) ⟨hx, hb, hml, hown, hts⟩ (c_X13_begins (l := l) M a0 (gI M b1 7) 5 k0 h2) (cwV 2 hts gX13_readTry_X13_begins rfl rfl rfl hdV_X13_begins ⟨Nat.le_of_ble_eq_true rfl, Nat.le_of_ble_eq_true rfl⟩) (pV (T := TX13) hP hK hD hT hG hS k0 (by decide) rfl) rfl rfl hl.1 rfl (lv_room (Nat.le_of_ble_eq_true rfl)) dX13_readTry_9 ⟨Nat.zero_le _, Nat.zero_le _⟩) hS (fun H locs hP hD hT hS => ?_)
    refine lv_aload_n hx hb dX13_readTry_12 rfl (lv_at hl 0 rfl) ?_
    refine lv_iconst (v := 2) hx hb dX13_readTry_13 rfl ?_
    refine lv_aload_n hx hb dX13_readTry_14 rfl (lv_at hl 0 rfl) ?_
    rcases hN3 : gR z2 a0 4 with _ | b3
    · replace h := oc_n hN3 h
      refine r_get (T := TX13) (v := .null) hx hb hts in13 hown hK hP k0 (by decide) rfl 4 (by decide) (hts (.fieldLink RX13 150 "StoneWalkModel" "read" "LStoneWalkModel$Island;") (List.mem_of_getElem? (i := 1) (by decide +kernel))) rfl (t := 2) rfl (by show va_rf _ = _; rw [hN3]; rfl) dX13_readTry_15 ?_
      exact absurd h (by simp)
    · replace h := oc_s hN3 h
      have kb3 := hT.f k0 (k := 4) (t := 12) (n := 0) rfl hN3
      refine r_get (T := TX13) (v := .ref (ad b3)) hx hb hts in13 hown hK hP k0 (by decide) rfl 4 (by decide) (hts (.fieldLink RX13 150 "StoneWalkModel" "read" "LStoneWalkModel$Island;") (List.mem_of_getElem? (i := 1) (by decide +kernel))) rfl (t := 2) rfl (by show va_rf _ = _; rw [hN3]; rfl) dX13_readTry_15 ?_
      refine r_getN (T := TX12) (v := .int (gI z2 b3 7)) hx hb hts in12 hown hK hP kb3 (by decide) rfl 7 (by decide) (hG.2.2.1 ("StoneWalkModel", 409, "StoneWalkModel$Island", "tries", "I", "StoneWalkModel") (List.mem_of_getElem? (i := 44) rfl)) rfl (t := 0) rfl rfl dX13_readTry_18 ?_
      obtain ⟨z4, h4, h⟩ := ob_some h
      refine k_v (va_runV (As := [.int 2, .int (gI z2 b3 7)]) (rest := []) ⟨hx, hb, hml, hown, hts⟩ (c_X13_readFresh (l := l) z2 a0 2 (gI z2 b3 7) k0 h4) (cwV 2 hts gX13_readTry_X13_readFresh rfl rfl rfl hdV_X13_readFresh ⟨Nat.le_of_ble_eq_true rfl, Nat.le_of_ble_eq_true rfl⟩) (pV (T := TX13) hP hK hD hT hG hS k0 (by decide) rfl) rfl rfl hl.1 rfl (lv_room (Nat.le_of_ble_eq_true rfl)) dX13_readTry_21 ⟨Nat.zero_le _, Nat.zero_le _⟩) hS (fun H locs hP hD hT hS => ?_)
      refine lv_aload_n hx hb dX13_readTry_24 rfl (lv_at hl 0 rfl) ?_
      refine r_ldcSw (tx := "tons") (i := 7) hx hb hG hown (by decide +kernel) dX13_readTry_25 ?_
      refine lv_iconst (v := 1) hx hb dX13_readTry_28 rfl ?_
      refine lv_bipush (v := 99) hx hb dX13_readTry_29 rfl ?_
      obtain ⟨z5, h5, h⟩ := ob_some h
      refine k_i (va_runV (As := [.ref (q.2.1 7), .int 1, .int 99]) (rest := []) ⟨hx, hb, hml, hown, hts⟩ (c_X13_readPart (l := l) z4 a0 7 1 99 k0 (by decide) h5) (cwV 3 hts gX13_readTry_X13_readPart rfl rfl rfl hdV_X13_readPart ⟨Nat.le_of_ble_eq_true rfl, Nat.le_of_ble_eq_true rfl⟩) (pV (T := TX13) hP hK hD hT hG hS k0 (by decide) rfl) rfl rfl hl.1 rfl (lv_room (Nat.le_of_ble_eq_true rfl)) dX13_readTry_31 ⟨Nat.zero_le _, Nat.zero_le _⟩) hS (fun H locs hP hD hT hS => ?_)
      refine lv_istore_n (lv' := [(1, .int z5.1), (0, .ref (ad a0))]) hx hb dX13_readTry_34 rfl hl (by decide) rfl (fun ls hl => ?_)
      refine lv_aload_n hx hb dX13_readTry_35 rfl (lv_at hl 1 rfl) ?_
      refine r_ldcSw (tx := "lean") (i := 8) hx hb hG hown (by decide +kernel) dX13_readTry_36 ?_
      refine lv_iconst (v := 0) hx hb dX13_readTry_39 rfl ?_
      refine lv_bipush (v := 30) hx hb dX13_readTry_40 rfl ?_
      obtain ⟨z6, h6, h⟩ := ob_some h
      refine k_i (va_runV (As := [.ref (q.2.1 8), .int 0, .int 30]) (rest := []) ⟨hx, hb, hml, hown, hts⟩ (c_X13_readPart (l := l) z5.2 a0 8 0 30 k0 (by decide) h6) (cwV 3 hts gX13_readTry_X13_readPart rfl rfl rfl hdV_X13_readPart ⟨Nat.le_of_ble_eq_true rfl, Nat.le_of_ble_eq_true rfl⟩) (pV (T := TX13) hP hK hD hT hG hS k0 (by decide) rfl) rfl rfl hl.1 rfl (lv_room (Nat.le_of_ble_eq_true rfl)) dX13_readTry_42 ⟨Nat.zero_le _, Nat.zero_le _⟩) hS (fun H locs hP hD hT hS => ?_)
      refine lv_istore_n (lv' := [(2, .int z6.1), (1, .int z5.1), (0, .ref (ad a0))]) hx hb dX13_readTry_45 rfl hl (by decide) rfl (fun ls hl => ?_)
      refine lv_aload_n hx hb dX13_readTry_46 rfl (lv_at hl 2 rfl) ?_
      refine r_ldcSw (tx := "edge") (i := 9) hx hb hG hown (by decide +kernel) dX13_readTry_47 ?_
      refine lv_iconst (v := 0) hx hb dX13_readTry_50 rfl ?_
      refine lv_bipush (v := 20) hx hb dX13_readTry_51 rfl ?_
      obtain ⟨z7, h7, h⟩ := ob_some h
      refine k_i (va_runV (As := [.ref (q.2.1 9), .int 0, .int 20]) (rest := []) ⟨hx, hb, hml, hown, hts⟩ (c_X13_readPart (l := l) z6.2 a0 9 0 20 k0 (by decide) h7) (cwV 3 hts gX13_readTry_X13_readPart rfl rfl rfl hdV_X13_readPart ⟨Nat.le_of_ble_eq_true rfl, Nat.le_of_ble_eq_true rfl⟩) (pV (T := TX13) hP hK hD hT hG hS k0 (by decide) rfl) rfl rfl hl.1 rfl (lv_room (Nat.le_of_ble_eq_true rfl)) dX13_readTry_53 ⟨Nat.zero_le _, Nat.zero_le _⟩) hS (fun H locs hP hD hT hS => ?_)
      refine lv_istore_n (lv' := [(3, .int z7.1), (2, .int z6.1), (1, .int z5.1), (0, .ref (ad a0))]) hx hb dX13_readTry_56 rfl hl (by decide) rfl (fun ls hl => ?_)
      refine lv_aload_n hx hb dX13_readTry_57 rfl (lv_at hl 3 rfl) ?_
      obtain ⟨z8, h8, h⟩ := ob_some h
      refine k_i (va_runV (As := []) (rest := []) ⟨hx, hb, hml, hown, hts⟩ (c_X13_readSlope (l := l) z7.2 a0 k0 h8) (cwV 0 hts gX13_readTry_X13_readSlope rfl rfl rfl hdV_X13_readSlope ⟨Nat.le_of_ble_eq_true rfl, Nat.le_of_ble_eq_true rfl⟩) (pV (T := TX13) hP hK hD hT hG hS k0 (by decide) rfl) rfl rfl hl.1 rfl (lv_room (Nat.le_of_ble_eq_true rfl)) dX13_readTry_58 ⟨Nat.zero_le _, Nat.zero_le _⟩) hS (fun H locs hP hD hT hS => ?_)
      refine lv_istore (lv' := [(4, .int z8.1), (3, .int z7.1), (2, .int z6.1), (1, .int z5.1), (0, .ref (ad a0))]) hx hb dX13_readTry_61 hl (by decide) rfl (fun ls hl => ?_)
      refine lv_aload_n hx hb dX13_readTry_63 rfl (lv_at hl 4 rfl) ?_
      refine r_get (T := TX13) (v := .int (gI z8.2 a0 9)) hx hb hts in13 hown hK hP k0 (by decide) rfl 9 (by decide) (hts (.fieldLink RX13 58 "StoneWalkModel" "sort" "I") (List.mem_of_getElem? (i := 2) (by decide +kernel))) rfl (t := 0) rfl rfl dX13_readTry_64 ?_
      refine lv_iconst (v := 5) hx hb dX13_readTry_67 rfl ?_
      refine lv_icmp_ne (tgt := 72) hx hb dX13_readTry_68 rfl (fun c9 => ?_) (fun c9 => ?_)
      · replace h := ite_f c9 h
        refine lv_aload_n hx hb dX13_readTry_72 rfl (lv_at hl 4 rfl) ?_
        rcases hN10 : gR z8.2 a0 4 with _ | b10
        · replace h := oc_n hN10 h
          refine r_get (T := TX13) (v := .null) hx hb hts in13 hown hK hP k0 (by decide) rfl 4 (by decide) (hts (.fieldLink RX13 150 "StoneWalkModel" "read" "LStoneWalkModel$Island;") (List.mem_of_getElem? (i := 1) (by decide +kernel))) rfl (t := 2) rfl (by show va_rf _ = _; rw [hN10]; rfl) dX13_readTry_73 ?_
          exact absurd h (by simp)
        · replace h := oc_s hN10 h
          have kb10 := hT.f k0 (k := 4) (t := 12) (n := 0) rfl hN10
          refine r_get (T := TX13) (v := .ref (ad b10)) hx hb hts in13 hown hK hP k0 (by decide) rfl 4 (by decide) (hts (.fieldLink RX13 150 "StoneWalkModel" "read" "LStoneWalkModel$Island;") (List.mem_of_getElem? (i := 1) (by decide +kernel))) rfl (t := 2) rfl (by show va_rf _ = _; rw [hN10]; rfl) dX13_readTry_73 ?_
          rcases hN11 : gR z8.2 b10 40 with _ | b11
          · exact absurd (oc_n hN11 h) (by simp)
          replace h := oc_s hN11 h
          have kb11 := hT.f kb10 (k := 40) (t := 15) (n := 5) rfl hN11
          refine r_getN (T := TX12) (v := .ref (ad b11)) hx hb hts in12 hown hK hP kb10 (by decide) rfl 40 (by decide) (hG.2.2.1 ("StoneWalkModel", 412, "StoneWalkModel$Island", "tryTons", "[I", "StoneWalkModel") (List.mem_of_getElem? (i := 45) rfl)) rfl (t := 2) rfl (by show va_rf _ = _; rw [hN11]; rfl) dX13_readTry_76 ?_
          refine lv_aload_n hx hb dX13_readTry_79 rfl (lv_at hl 4 rfl) ?_
          rcases hN12 : gR z8.2 a0 4 with _ | b12
          · replace h := oc_n hN12 h
            refine r_get (T := TX13) (v := .null) hx hb hts in13 hown hK hP k0 (by decide) rfl 4 (by decide) (hts (.fieldLink RX13 150 "StoneWalkModel" "read" "LStoneWalkModel$Island;") (List.mem_of_getElem? (i := 1) (by decide +kernel))) rfl (t := 2) rfl (by show va_rf _ = _; rw [hN12]; rfl) dX13_readTry_80 ?_
            exact absurd h (by simp)
          · replace h := oc_s hN12 h
            have kb12 := hT.f k0 (k := 4) (t := 12) (n := 0) rfl hN12
            refine r_get (T := TX13) (v := .ref (ad b12)) hx hb hts in13 hown hK hP k0 (by decide) rfl 4 (by decide) (hts (.fieldLink RX13 150 "StoneWalkModel" "read" "LStoneWalkModel$Island;") (List.mem_of_getElem? (i := 1) (by decide +kernel))) rfl (t := 2) rfl (by show va_rf _ = _; rw [hN12]; rfl) dX13_readTry_80 ?_
            refine r_getN (T := TX12) (v := .int (gI z8.2 b12 7)) hx hb hts in12 hown hK hP kb12 (by decide) rfl 7 (by decide) (hG.2.2.1 ("StoneWalkModel", 409, "StoneWalkModel$Island", "tries", "I", "StoneWalkModel") (List.mem_of_getElem? (i := 44) rfl)) rfl (t := 0) rfl rfl dX13_readTry_83 ?_
            refine lv_iload_n hx hb dX13_readTry_86 rfl (lv_at hl 3 rfl) ?_
            obtain ⟨hn13, h⟩ := chk_some h
            refine r_iast hx hb hK hP hD hT hS kb11 hn13 dX13_readTry_87 (fun H locs hP hD hT hS => ?_)
            generalize pI z8.2 b11 (ix (gI z8.2 b12 7)) z5.1 = Mg1 at h hP hD hT ⊢
            refine lv_aload_n hx hb dX13_readTry_88 rfl (lv_at hl 4 rfl) ?_
            rcases hN14 : gR Mg1 a0 4 with _ | b14
            · replace h := oc_n hN14 h
              refine r_get (T := TX13) (v := .null) hx hb hts in13 hown hK hP k0 (by decide) rfl 4 (by decide) (hts (.fieldLink RX13 150 "StoneWalkModel" "read" "LStoneWalkModel$Island;") (List.mem_of_getElem? (i := 1) (by decide +kernel))) rfl (t := 2) rfl (by show va_rf _ = _; rw [hN14]; rfl) dX13_readTry_89 ?_
              exact absurd h (by simp)
            · replace h := oc_s hN14 h
              have kb14 := hT.f k0 (k := 4) (t := 12) (n := 0) rfl hN14
              refine r_get (T := TX13) (v := .ref (ad b14)) hx hb hts in13 hown hK hP k0 (by decide) rfl 4 (by decide) (hts (.fieldLink RX13 150 "StoneWalkModel" "read" "LStoneWalkModel$Island;") (List.mem_of_getElem? (i := 1) (by decide +kernel))) rfl (t := 2) rfl (by show va_rf _ = _; rw [hN14]; rfl) dX13_readTry_89 ?_
              rcases hN15 : gR Mg1 b14 41 with _ | b15
              · exact absurd (oc_n hN15 h) (by simp)
              replace h := oc_s hN15 h
              have kb15 := hT.f kb14 (k := 41) (t := 15) (n := 5) rfl hN15
              refine r_getN (T := TX12) (v := .ref (ad b15)) hx hb hts in12 hown hK hP kb14 (by decide) rfl 41 (by decide) (hG.2.2.1 ("StoneWalkModel", 415, "StoneWalkModel$Island", "tryLean", "[I", "StoneWalkModel") (List.mem_of_getElem? (i := 46) rfl)) rfl (t := 2) rfl (by show va_rf _ = _; rw [hN15]; rfl) dX13_readTry_92 ?_
              refine lv_aload_n hx hb dX13_readTry_95 rfl (lv_at hl 4 rfl) ?_
              rcases hN16 : gR Mg1 a0 4 with _ | b16
              · replace h := oc_n hN16 h
                refine r_get (T := TX13) (v := .null) hx hb hts in13 hown hK hP k0 (by decide) rfl 4 (by decide) (hts (.fieldLink RX13 150 "StoneWalkModel" "read" "LStoneWalkModel$Island;") (List.mem_of_getElem? (i := 1) (by decide +kernel))) rfl (t := 2) rfl (by show va_rf _ = _; rw [hN16]; rfl) dX13_readTry_96 ?_
                exact absurd h (by simp)
              · replace h := oc_s hN16 h
                have kb16 := hT.f k0 (k := 4) (t := 12) (n := 0) rfl hN16
                refine r_get (T := TX13) (v := .ref (ad b16)) hx hb hts in13 hown hK hP k0 (by decide) rfl 4 (by decide) (hts (.fieldLink RX13 150 "StoneWalkModel" "read" "LStoneWalkModel$Island;") (List.mem_of_getElem? (i := 1) (by decide +kernel))) rfl (t := 2) rfl (by show va_rf _ = _; rw [hN16]; rfl) dX13_readTry_96 ?_
                refine r_getN (T := TX12) (v := .int (gI Mg1 b16 7)) hx hb hts in12 hown hK hP kb16 (by decide) rfl 7 (by decide) (hG.2.2.1 ("StoneWalkModel", 409, "StoneWalkModel$Island", "tries", "I", "StoneWalkModel") (List.mem_of_getElem? (i := 44) rfl)) rfl (t := 0) rfl rfl dX13_readTry_99 ?_
                refine lv_iload_n hx hb dX13_readTry_102 rfl (lv_at hl 2 rfl) ?_
                obtain ⟨hn17, h⟩ := chk_some h
                refine r_iast hx hb hK hP hD hT hS kb15 hn17 dX13_readTry_103 (fun H locs hP hD hT hS => ?_)
                generalize pI Mg1 b15 (ix (gI Mg1 b16 7)) z6.1 = Mg2 at h hP hD hT ⊢
                refine lv_aload_n hx hb dX13_readTry_104 rfl (lv_at hl 4 rfl) ?_
                rcases hN18 : gR Mg2 a0 4 with _ | b18
                · replace h := oc_n hN18 h
                  refine r_get (T := TX13) (v := .null) hx hb hts in13 hown hK hP k0 (by decide) rfl 4 (by decide) (hts (.fieldLink RX13 150 "StoneWalkModel" "read" "LStoneWalkModel$Island;") (List.mem_of_getElem? (i := 1) (by decide +kernel))) rfl (t := 2) rfl (by show va_rf _ = _; rw [hN18]; rfl) dX13_readTry_105 ?_
                  exact absurd h (by simp)
                · replace h := oc_s hN18 h
                  have kb18 := hT.f k0 (k := 4) (t := 12) (n := 0) rfl hN18
                  refine r_get (T := TX13) (v := .ref (ad b18)) hx hb hts in13 hown hK hP k0 (by decide) rfl 4 (by decide) (hts (.fieldLink RX13 150 "StoneWalkModel" "read" "LStoneWalkModel$Island;") (List.mem_of_getElem? (i := 1) (by decide +kernel))) rfl (t := 2) rfl (by show va_rf _ = _; rw [hN18]; rfl) dX13_readTry_105 ?_
                  rcases hN19 : gR Mg2 b18 42 with _ | b19
                  · exact absurd (oc_n hN19 h) (by simp)
                  replace h := oc_s hN19 h
                  have kb19 := hT.f kb18 (k := 42) (t := 15) (n := 5) rfl hN19
                  refine r_getN (T := TX12) (v := .ref (ad b19)) hx hb hts in12 hown hK hP kb18 (by decide) rfl 42 (by decide) (hG.2.2.1 ("StoneWalkModel", 418, "StoneWalkModel$Island", "tryEdge", "[I", "StoneWalkModel") (List.mem_of_getElem? (i := 47) rfl)) rfl (t := 2) rfl (by show va_rf _ = _; rw [hN19]; rfl) dX13_readTry_108 ?_
                  refine lv_aload_n hx hb dX13_readTry_111 rfl (lv_at hl 4 rfl) ?_
                  rcases hN20 : gR Mg2 a0 4 with _ | b20
                  · replace h := oc_n hN20 h
                    refine r_get (T := TX13) (v := .null) hx hb hts in13 hown hK hP k0 (by decide) rfl 4 (by decide) (hts (.fieldLink RX13 150 "StoneWalkModel" "read" "LStoneWalkModel$Island;") (List.mem_of_getElem? (i := 1) (by decide +kernel))) rfl (t := 2) rfl (by show va_rf _ = _; rw [hN20]; rfl) dX13_readTry_112 ?_
                    exact absurd h (by simp)
                  · replace h := oc_s hN20 h
                    have kb20 := hT.f k0 (k := 4) (t := 12) (n := 0) rfl hN20
                    refine r_get (T := TX13) (v := .ref (ad b20)) hx hb hts in13 hown hK hP k0 (by decide) rfl 4 (by decide) (hts (.fieldLink RX13 150 "StoneWalkModel" "read" "LStoneWalkModel$Island;") (List.mem_of_getElem? (i := 1) (by decide +kernel))) rfl (t := 2) rfl (by show va_rf _ = _; rw [hN20]; rfl) dX13_readTry_112 ?_
                    refine r_getN (T := TX12) (v := .int (gI Mg2 b20 7)) hx hb hts in12 hown hK hP kb20 (by decide) rfl 7 (by decide) (hG.2.2.1 ("StoneWalkModel", 409, "StoneWalkModel$Island", "tries", "I", "StoneWalkModel") (List.mem_of_getElem? (i := 44) rfl)) rfl (t := 0) rfl rfl dX13_readTry_115 ?_
                    refine lv_iload_n hx hb dX13_readTry_118 rfl (lv_at hl 1 rfl) ?_
                    obtain ⟨hn21, h⟩ := chk_some h
                    refine r_iast hx hb hK hP hD hT hS kb19 hn21 dX13_readTry_119 (fun H locs hP hD hT hS => ?_)
                    generalize pI Mg2 b19 (ix (gI Mg2 b20 7)) z7.1 = Mg3 at h hP hD hT ⊢
                    refine lv_aload_n hx hb dX13_readTry_120 rfl (lv_at hl 4 rfl) ?_
                    rcases hN22 : gR Mg3 a0 4 with _ | b22
                    · replace h := oc_n hN22 h
                      refine r_get (T := TX13) (v := .null) hx hb hts in13 hown hK hP k0 (by decide) rfl 4 (by decide) (hts (.fieldLink RX13 150 "StoneWalkModel" "read" "LStoneWalkModel$Island;") (List.mem_of_getElem? (i := 1) (by decide +kernel))) rfl (t := 2) rfl (by show va_rf _ = _; rw [hN22]; rfl) dX13_readTry_121 ?_
                      exact absurd h (by simp)
                    · replace h := oc_s hN22 h
                      have kb22 := hT.f k0 (k := 4) (t := 12) (n := 0) rfl hN22
                      refine r_get (T := TX13) (v := .ref (ad b22)) hx hb hts in13 hown hK hP k0 (by decide) rfl 4 (by decide) (hts (.fieldLink RX13 150 "StoneWalkModel" "read" "LStoneWalkModel$Island;") (List.mem_of_getElem? (i := 1) (by decide +kernel))) rfl (t := 2) rfl (by show va_rf _ = _; rw [hN22]; rfl) dX13_readTry_121 ?_
                      rcases hN23 : gR Mg3 b22 43 with _ | b23
                      · exact absurd (oc_n hN23 h) (by simp)
                      replace h := oc_s hN23 h
                      have kb23 := hT.f kb22 (k := 43) (t := 15) (n := 5) rfl hN23
                      refine r_getN (T := TX12) (v := .ref (ad b23)) hx hb hts in12 hown hK hP kb22 (by decide) rfl 43 (by decide) (hG.2.2.1 ("StoneWalkModel", 421, "StoneWalkModel$Island", "trySlope", "[I", "StoneWalkModel") (List.mem_of_getElem? (i := 48) rfl)) rfl (t := 2) rfl (by show va_rf _ = _; rw [hN23]; rfl) dX13_readTry_124 ?_
                      refine lv_aload_n hx hb dX13_readTry_127 rfl (lv_at hl 4 rfl) ?_
                      rcases hN24 : gR Mg3 a0 4 with _ | b24
                      · replace h := oc_n hN24 h
                        refine r_get (T := TX13) (v := .null) hx hb hts in13 hown hK hP k0 (by decide) rfl 4 (by decide) (hts (.fieldLink RX13 150 "StoneWalkModel" "read" "LStoneWalkModel$Island;") (List.mem_of_getElem? (i := 1) (by decide +kernel))) rfl (t := 2) rfl (by show va_rf _ = _; rw [hN24]; rfl) dX13_readTry_128 ?_
                        exact absurd h (by simp)
                      · replace h := oc_s hN24 h
                        have kb24 := hT.f k0 (k := 4) (t := 12) (n := 0) rfl hN24
                        refine r_get (T := TX13) (v := .ref (ad b24)) hx hb hts in13 hown hK hP k0 (by decide) rfl 4 (by decide) (hts (.fieldLink RX13 150 "StoneWalkModel" "read" "LStoneWalkModel$Island;") (List.mem_of_getElem? (i := 1) (by decide +kernel))) rfl (t := 2) rfl (by show va_rf _ = _; rw [hN24]; rfl) dX13_readTry_128 ?_
                        refine r_getN (T := TX12) (v := .int (gI Mg3 b24 7)) hx hb hts in12 hown hK hP kb24 (by decide) rfl 7 (by decide) (hG.2.2.1 ("StoneWalkModel", 409, "StoneWalkModel$Island", "tries", "I", "StoneWalkModel") (List.mem_of_getElem? (i := 44) rfl)) rfl (t := 0) rfl rfl dX13_readTry_131 ?_
                        refine lv_iload hx hb dX13_readTry_134 (lv_at hl 0 rfl) ?_
                        obtain ⟨hn25, h⟩ := chk_some h
                        refine r_iast hx hb hK hP hD hT hS kb23 hn25 dX13_readTry_136 (fun H locs hP hD hT hS => ?_)
                        generalize pI Mg3 b23 (ix (gI Mg3 b24 7)) z8.1 = Mg4 at h hP hD hT ⊢
                        refine lv_aload_n hx hb dX13_readTry_137 rfl (lv_at hl 4 rfl) ?_
                        rcases hN26 : gR Mg4 a0 4 with _ | b26
                        · replace h := oc_n hN26 h
                          refine r_get (T := TX13) (v := .null) hx hb hts in13 hown hK hP k0 (by decide) rfl 4 (by decide) (hts (.fieldLink RX13 150 "StoneWalkModel" "read" "LStoneWalkModel$Island;") (List.mem_of_getElem? (i := 1) (by decide +kernel))) rfl (t := 2) rfl (by show va_rf _ = _; rw [hN26]; rfl) dX13_readTry_138 ?_
                          refine lv_dup hx hb dX13_readTry_141 rfl ?_
                          exact absurd h (by simp)
                        · replace h := oc_s hN26 h
                          have kb26 := hT.f k0 (k := 4) (t := 12) (n := 0) rfl hN26
                          refine r_get (T := TX13) (v := .ref (ad b26)) hx hb hts in13 hown hK hP k0 (by decide) rfl 4 (by decide) (hts (.fieldLink RX13 150 "StoneWalkModel" "read" "LStoneWalkModel$Island;") (List.mem_of_getElem? (i := 1) (by decide +kernel))) rfl (t := 2) rfl (by show va_rf _ = _; rw [hN26]; rfl) dX13_readTry_138 ?_
                          refine lv_dup hx hb dX13_readTry_141 rfl ?_
                          refine r_getN (T := TX12) (v := .int (gI Mg4 b26 7)) hx hb hts in12 hown hK hP kb26 (by decide) rfl 7 (by decide) (hG.2.2.1 ("StoneWalkModel", 409, "StoneWalkModel$Island", "tries", "I", "StoneWalkModel") (List.mem_of_getElem? (i := 44) rfl)) rfl (t := 0) rfl rfl dX13_readTry_142 ?_
                          refine lv_iconst (v := 1) hx hb dX13_readTry_145 rfl ?_
                          refine lv_iadd hx hb dX13_readTry_146 ?_
                          refine r_putIN (T := TX12) (ty := .int) (v := (gI Mg4 b26 7) + 1) hx hb hts in12 tyX12 tyX12_ok nmX12 hown hK hP hD hT hS kb26 (by decide) rfl 7 (by decide) (hG.2.2.1 ("StoneWalkModel", 409, "StoneWalkModel$Island", "tries", "I", "StoneWalkModel") (List.mem_of_getElem? (i := 44) rfl)) rfl rfl (tyX12_ok 7 (by decide)) rfl rfl rfl dX13_readTry_147 (fun H locs hP hD hT hS => ?_)
                          generalize pI Mg4 b26 7 ((gI Mg4 b26 7) + 1) = Mg5 at h hP hD hT ⊢
                          exact r_vret hx hb hr hlocks hP hK hD hT hG hS (Option.some.inj h) dX13_readTry_150
      · replace h := ite_t c9 h
        exact r_vret hx hb hr hlocks hP hK hD hT hG hS (Option.some.inj h) dX13_readTry_71
