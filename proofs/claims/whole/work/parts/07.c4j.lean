set_option maxHeartbeats 4000000 in
set_option maxRecDepth 100000 in
theorem c_X13_readLine {l : Launch} {D : va_G} {ad : Nat → Nat} {cy : Nat → ClassId} {A : Nat → Prop} {g : CG} {q : SE} (M : MM) (a0 : Nat) (k0 : ok g a0 13 0) {Z : MM} (h : f_X13_readLine M a0 = some Z) : Met l yX13_readLine wsX13_readLine ({ frames := 10, cells := 0, slots := 0, locals := 221 }) (va_Pc [.ref (ad a0)] (Wd D ad cy A g q M)) (va_Qv (fun u => u = Z) (Wd D ad cy A g q) A) 0 0 A := by
  refine Met.ofW (cc := cX13_readLine) (maxL := 1) (ret := none) (by decide) rfl ?_
  intro p e s m args below meth c s₁ B hml hv
  obtain ⟨rfl, hP, hK, hD, hT, hG⟩ := hv
  have hx := B.exec
  have hb := B.bytes
  have hr := B.returns
  have hts := atoms_spec (ws := wsX13_readLine) B.pre
  have hown : s.vm.findClass RX13 = some m.cls := findClass_of_methodNamed B.named
  have hlocks := B.notSynchronized
  have hS : va_S A s.heap s.heap [] := va_S.rf
  have hl := lv_entry ([.ref (ad a0)]) (n := 1) (Nat.le_of_ble_eq_true rfl)
  rw [lg_entry_eq]
  generalize (lg_sl ([.ref (ad a0)]) ++ List.replicate (1 - (lg_sl ([.ref (ad a0)])).length) Slot.unset).toArray = ls at hl ⊢
  have hl : lv_has ls 1 [(0, .ref (ad a0))] := hl
  unfold f_X13_readLine at h
  refine lv_aload_n hx hb dX13_readLine_0 rfl (lv_at hl 0 rfl) ?_
  refine r_ldcS (tx := "way") (i := 30) hx hb hG hown (by decide +kernel) dX13_readLine_1 ?_
  obtain ⟨z1, h1, h⟩ := ob_some h
  refine k_z (va_runV (As := [.ref (q.2.1 30)]) (rest := []) ⟨hx, hb, hml, hown, hts⟩ (c_X13_isWord (l := l) M a0 30 k0 (by decide) h1) (cwV 1 hts gX13_readLine_X13_isWord rfl rfl rfl hdV_X13_isWord ⟨Nat.le_of_ble_eq_true rfl, Nat.le_of_ble_eq_true rfl⟩) (pV (T := TX13) hP hK hD hT hG hS k0 (by decide) rfl) rfl rfl hl.1 rfl (lv_room (Nat.le_of_ble_eq_true rfl)) dX13_readLine_3 ⟨Nat.zero_le _, Nat.zero_le _⟩) hS (fun H locs hz1 hP hD hT hS => ?_)
  refine lv_if_eq (tgt := 16) hx hb dX13_readLine_6 rfl (fun c2 => ?_) (fun c2 => ?_)
  · replace h := ite_t c2 h
    refine lv_aload_n hx hb dX13_readLine_16 rfl (lv_at hl 0 rfl) ?_
    refine r_ldcS (tx := "road") (i := 31) hx hb hG hown (by decide +kernel) dX13_readLine_17 ?_
    obtain ⟨z3, h3, h⟩ := ob_some h
    refine k_z (va_runV (As := [.ref (q.2.1 31)]) (rest := []) ⟨hx, hb, hml, hown, hts⟩ (c_X13_isWord (l := l) M a0 31 k0 (by decide) h3) (cwV 1 hts gX13_readLine_X13_isWord rfl rfl rfl hdV_X13_isWord ⟨Nat.le_of_ble_eq_true rfl, Nat.le_of_ble_eq_true rfl⟩) (pV (T := TX13) hP hK hD hT hG hS k0 (by decide) rfl) rfl rfl hl.1 rfl (lv_room (Nat.le_of_ble_eq_true rfl)) dX13_readLine_19 ⟨Nat.zero_le _, Nat.zero_le _⟩) hS (fun H locs hz3 hP hD hT hS => ?_)
    refine lv_if_eq (tgt := 32) hx hb dX13_readLine_22 rfl (fun c4 => ?_) (fun c4 => ?_)
    · replace h := ite_t c4 h
      refine lv_aload_n hx hb dX13_readLine_32 rfl (lv_at hl 0 rfl) ?_
      refine r_ldcS (tx := "statue") (i := 32) hx hb hG hown (by decide +kernel) dX13_readLine_33 ?_
      obtain ⟨z5, h5, h⟩ := ob_some h
      refine k_z (va_runV (As := [.ref (q.2.1 32)]) (rest := []) ⟨hx, hb, hml, hown, hts⟩ (c_X13_isWord (l := l) M a0 32 k0 (by decide) h5) (cwV 1 hts gX13_readLine_X13_isWord rfl rfl rfl hdV_X13_isWord ⟨Nat.le_of_ble_eq_true rfl, Nat.le_of_ble_eq_true rfl⟩) (pV (T := TX13) hP hK hD hT hG hS k0 (by decide) rfl) rfl rfl hl.1 rfl (lv_room (Nat.le_of_ble_eq_true rfl)) dX13_readLine_35 ⟨Nat.zero_le _, Nat.zero_le _⟩) hS (fun H locs hz5 hP hD hT hS => ?_)
      refine lv_if_eq (tgt := 48) hx hb dX13_readLine_38 rfl (fun c6 => ?_) (fun c6 => ?_)
      · replace h := ite_t c6 h
        refine lv_aload_n hx hb dX13_readLine_48 rfl (lv_at hl 0 rfl) ?_
        refine r_ldcS (tx := "trial") (i := 33) hx hb hG hown (by decide +kernel) dX13_readLine_49 ?_
        obtain ⟨z7, h7, h⟩ := ob_some h
        refine k_z (va_runV (As := [.ref (q.2.1 33)]) (rest := []) ⟨hx, hb, hml, hown, hts⟩ (c_X13_isWord (l := l) M a0 33 k0 (by decide) h7) (cwV 1 hts gX13_readLine_X13_isWord rfl rfl rfl hdV_X13_isWord ⟨Nat.le_of_ble_eq_true rfl, Nat.le_of_ble_eq_true rfl⟩) (pV (T := TX13) hP hK hD hT hG hS k0 (by decide) rfl) rfl rfl hl.1 rfl (lv_room (Nat.le_of_ble_eq_true rfl)) dX13_readLine_51 ⟨Nat.zero_le _, Nat.zero_le _⟩) hS (fun H locs hz7 hP hD hT hS => ?_)
        refine lv_if_eq (tgt := 64) hx hb dX13_readLine_54 rfl (fun c8 => ?_) (fun c8 => ?_)
        · replace h := ite_t c8 h
          refine lv_aload_n hx hb dX13_readLine_64 rfl (lv_at hl 0 rfl) ?_
          refine r_ldcS (tx := "land") (i := 34) hx hb hG hown (by decide +kernel) dX13_readLine_65 ?_
          obtain ⟨z9, h9, h⟩ := ob_some h
          refine k_z (va_runV (As := [.ref (q.2.1 34)]) (rest := []) ⟨hx, hb, hml, hown, hts⟩ (c_X13_isWord (l := l) M a0 34 k0 (by decide) h9) (cwV 1 hts gX13_readLine_X13_isWord rfl rfl rfl hdV_X13_isWord ⟨Nat.le_of_ble_eq_true rfl, Nat.le_of_ble_eq_true rfl⟩) (pV (T := TX13) hP hK hD hT hG hS k0 (by decide) rfl) rfl rfl hl.1 rfl (lv_room (Nat.le_of_ble_eq_true rfl)) dX13_readLine_67 ⟨Nat.zero_le _, Nat.zero_le _⟩) hS (fun H locs hz9 hP hD hT hS => ?_)
          refine lv_if_eq (tgt := 80) hx hb dX13_readLine_70 rfl (fun c10 => ?_) (fun c10 => ?_)
          · replace h := ite_t c10 h
            refine lv_aload_n hx hb dX13_readLine_80 rfl (lv_at hl 0 rfl) ?_
            refine r_ldcS (tx := "fields") (i := 35) hx hb hG hown (by decide +kernel) dX13_readLine_81 ?_
            obtain ⟨z11, h11, h⟩ := ob_some h
            refine k_z (va_runV (As := [.ref (q.2.1 35)]) (rest := []) ⟨hx, hb, hml, hown, hts⟩ (c_X13_isWord (l := l) M a0 35 k0 (by decide) h11) (cwV 1 hts gX13_readLine_X13_isWord rfl rfl rfl hdV_X13_isWord ⟨Nat.le_of_ble_eq_true rfl, Nat.le_of_ble_eq_true rfl⟩) (pV (T := TX13) hP hK hD hT hG hS k0 (by decide) rfl) rfl rfl hl.1 rfl (lv_room (Nat.le_of_ble_eq_true rfl)) dX13_readLine_83 ⟨Nat.zero_le _, Nat.zero_le _⟩) hS (fun H locs hz11 hP hD hT hS => ?_)
            refine lv_if_eq (tgt := 96) hx hb dX13_readLine_86 rfl (fun c12 => ?_) (fun c12 => ?_)
            · replace h := ite_t c12 h
              refine lv_aload_n hx hb dX13_readLine_96 rfl (lv_at hl 0 rfl) ?_
              refine r_ldcS (tx := "houses") (i := 36) hx hb hG hown (by decide +kernel) dX13_readLine_97 ?_
              obtain ⟨z13, h13, h⟩ := ob_some h
              refine k_z (va_runV (As := [.ref (q.2.1 36)]) (rest := []) ⟨hx, hb, hml, hown, hts⟩ (c_X13_isWord (l := l) M a0 36 k0 (by decide) h13) (cwV 1 hts gX13_readLine_X13_isWord rfl rfl rfl hdV_X13_isWord ⟨Nat.le_of_ble_eq_true rfl, Nat.le_of_ble_eq_true rfl⟩) (pV (T := TX13) hP hK hD hT hG hS k0 (by decide) rfl) rfl rfl hl.1 rfl (lv_room (Nat.le_of_ble_eq_true rfl)) dX13_readLine_99 ⟨Nat.zero_le _, Nat.zero_le _⟩) hS (fun H locs hz13 hP hD hT hS => ?_)
              refine lv_if_eq (tgt := 112) hx hb dX13_readLine_102 rfl (fun c14 => ?_) (fun c14 => ?_)
              · replace h := ite_t c14 h
                refine lv_aload_n hx hb dX13_readLine_112 rfl (lv_at hl 0 rfl) ?_
                refine r_ldcS (tx := "story") (i := 37) hx hb hG hown (by decide +kernel) dX13_readLine_113 ?_
                obtain ⟨z15, h15, h⟩ := ob_some h
                refine k_z (va_runV (As := [.ref (q.2.1 37)]) (rest := []) ⟨hx, hb, hml, hown, hts⟩ (c_X13_isWord (l := l) M a0 37 k0 (by decide) h15) (cwV 1 hts gX13_readLine_X13_isWord rfl rfl rfl hdV_X13_isWord ⟨Nat.le_of_ble_eq_true rfl, Nat.le_of_ble_eq_true rfl⟩) (pV (T := TX13) hP hK hD hT hG hS k0 (by decide) rfl) rfl rfl hl.1 rfl (lv_room (Nat.le_of_ble_eq_true rfl)) dX13_readLine_115 ⟨Nat.zero_le _, Nat.zero_le _⟩) hS (fun H locs hz15 hP hD hT hS => ?_)
                refine lv_if_eq (tgt := 128) hx hb dX13_readLine_118 rfl (fun c16 => ?_) (fun c16 => ?_)
                · replace h := ite_t c16 h
                  refine lv_aload_n hx hb dX13_readLine_128 rfl (lv_at hl 0 rfl) ?_
                  refine r_ldcS (tx := "teller") (i := 38) hx hb hG hown (by decide +kernel) dX13_readLine_129 ?_
                  obtain ⟨z17, h17, h⟩ := ob_some h
                  refine k_z (va_runV (As := [.ref (q.2.1 38)]) (rest := []) ⟨hx, hb, hml, hown, hts⟩ (c_X13_isWord (l := l) M a0 38 k0 (by decide) h17) (cwV 1 hts gX13_readLine_X13_isWord rfl rfl rfl hdV_X13_isWord ⟨Nat.le_of_ble_eq_true rfl, Nat.le_of_ble_eq_true rfl⟩) (pV (T := TX13) hP hK hD hT hG hS k0 (by decide) rfl) rfl rfl hl.1 rfl (lv_room (Nat.le_of_ble_eq_true rfl)) dX13_readLine_131 ⟨Nat.zero_le _, Nat.zero_le _⟩) hS (fun H locs hz17 hP hD hT hS => ?_)
                  refine lv_if_eq (tgt := 144) hx hb dX13_readLine_134 rfl (fun c18 => ?_) (fun c18 => ?_)
                  · replace h := ite_t c18 h
                    refine lv_aload_n hx hb dX13_readLine_144 rfl (lv_at hl 0 rfl) ?_
                    refine r_ldcS (tx := "try") (i := 39) hx hb hG hown (by decide +kernel) dX13_readLine_145 ?_
                    obtain ⟨z19, h19, h⟩ := ob_some h
                    refine k_z (va_runV (As := [.ref (q.2.1 39)]) (rest := []) ⟨hx, hb, hml, hown, hts⟩ (c_X13_isWord (l := l) M a0 39 k0 (by decide) h19) (cwV 1 hts gX13_readLine_X13_isWord rfl rfl rfl hdV_X13_isWord ⟨Nat.le_of_ble_eq_true rfl, Nat.le_of_ble_eq_true rfl⟩) (pV (T := TX13) hP hK hD hT hG hS k0 (by decide) rfl) rfl rfl hl.1 rfl (lv_room (Nat.le_of_ble_eq_true rfl)) dX13_readLine_147 ⟨Nat.zero_le _, Nat.zero_le _⟩) hS (fun H locs hz19 hP hD hT hS => ?_)
                    refine lv_if_eq (tgt := 160) hx hb dX13_readLine_150 rfl (fun c20 => ?_) (fun c20 => ?_)
                    · replace h := ite_t c20 h
                      refine lv_aload_n hx hb dX13_readLine_160 rfl (lv_at hl 0 rfl) ?_
                      refine lv_iconst (v := 1) hx hb dX13_readLine_161 rfl ?_
                      obtain ⟨z21, h21, h⟩ := ob_some h
                      refine k_v (va_runV (As := [.int 1]) (rest := []) ⟨hx, hb, hml, hown, hts⟩ (c_X13_wrong (l := l) M a0 1 k0 h21) (cwV 1 hts gX13_readLine_X13_wrong rfl rfl rfl hdV_X13_wrong ⟨Nat.le_of_ble_eq_true rfl, Nat.le_of_ble_eq_true rfl⟩) (pV (T := TX13) hP hK hD hT hG hS k0 (by decide) rfl) rfl rfl hl.1 rfl (lv_room (Nat.le_of_ble_eq_true rfl)) dX13_readLine_162 ⟨Nat.zero_le _, Nat.zero_le _⟩) hS (fun H locs hP hD hT hS => ?_)
                      exact r_vret hx hb hr hlocks hP hK hD hT hG hS (Option.some.inj h) dX13_readLine_165
                    · replace h := ite_f c20 h
                      refine lv_aload_n hx hb dX13_readLine_153 rfl (lv_at hl 0 rfl) ?_
                      obtain ⟨z22, h22, h⟩ := ob_some h
                      refine k_v (va_runV (As := []) (rest := []) ⟨hx, hb, hml, hown, hts⟩ (c_X13_readTry (l := l) M a0 k0 h22) (cwV 0 hts gX13_readLine_X13_readTry rfl rfl rfl hdV_X13_readTry ⟨Nat.le_of_ble_eq_true rfl, Nat.le_of_ble_eq_true rfl⟩) (pV (T := TX13) hP hK hD hT hG hS k0 (by decide) rfl) rfl rfl hl.1 rfl (lv_room (Nat.le_of_ble_eq_true rfl)) dX13_readLine_154 ⟨Nat.zero_le _, Nat.zero_le _⟩) hS (fun H locs hP hD hT hS => ?_)
                      refine lv_goto (tgt := 165) hx hb dX13_readLine_157 rfl ?_
                      exact r_vret hx hb hr hlocks hP hK hD hT hG hS (Option.some.inj h) dX13_readLine_165
                  · replace h := ite_f c18 h
                    refine lv_aload_n hx hb dX13_readLine_137 rfl (lv_at hl 0 rfl) ?_
                    obtain ⟨z23, h23, h⟩ := ob_some h
                    refine k_v (va_runV (As := []) (rest := []) ⟨hx, hb, hml, hown, hts⟩ (c_X13_readTeller (l := l) M a0 k0 h23) (cwV 0 hts gX13_readLine_X13_readTeller rfl rfl rfl hdV_X13_readTeller ⟨Nat.le_of_ble_eq_true rfl, Nat.le_of_ble_eq_true rfl⟩) (pV (T := TX13) hP hK hD hT hG hS k0 (by decide) rfl) rfl rfl hl.1 rfl (lv_room (Nat.le_of_ble_eq_true rfl)) dX13_readLine_138 ⟨Nat.zero_le _, Nat.zero_le _⟩) hS (fun H locs hP hD hT hS => ?_)
                    refine lv_goto (tgt := 165) hx hb dX13_readLine_141 rfl ?_
                    exact r_vret hx hb hr hlocks hP hK hD hT hG hS (Option.some.inj h) dX13_readLine_165
                · replace h := ite_f c16 h
                  refine lv_aload_n hx hb dX13_readLine_121 rfl (lv_at hl 0 rfl) ?_
                  obtain ⟨z24, h24, h⟩ := ob_some h
                  refine k_v (va_runV (As := []) (rest := []) ⟨hx, hb, hml, hown, hts⟩ (c_X13_readStory (l := l) M a0 k0 h24) (cwV 0 hts gX13_readLine_X13_readStory rfl rfl rfl hdV_X13_readStory ⟨Nat.le_of_ble_eq_true rfl, Nat.le_of_ble_eq_true rfl⟩) (pV (T := TX13) hP hK hD hT hG hS k0 (by decide) rfl) rfl rfl hl.1 rfl (lv_room (Nat.le_of_ble_eq_true rfl)) dX13_readLine_122 ⟨Nat.zero_le _, Nat.zero_le _⟩) hS (fun H locs hP hD hT hS => ?_)
                  refine lv_goto (tgt := 165) hx hb dX13_readLine_125 rfl ?_
                  exact r_vret hx hb hr hlocks hP hK hD hT hG hS (Option.some.inj h) dX13_readLine_165
              · replace h := ite_f c14 h
                refine lv_aload_n hx hb dX13_readLine_105 rfl (lv_at hl 0 rfl) ?_
                obtain ⟨z25, h25, h⟩ := ob_some h
                refine k_v (va_runV (As := []) (rest := []) ⟨hx, hb, hml, hown, hts⟩ (c_X13_readHouses (l := l) M a0 k0 h25) (cwV 0 hts gX13_readLine_X13_readHouses rfl rfl rfl hdV_X13_readHouses ⟨Nat.le_of_ble_eq_true rfl, Nat.le_of_ble_eq_true rfl⟩) (pV (T := TX13) hP hK hD hT hG hS k0 (by decide) rfl) rfl rfl hl.1 rfl (lv_room (Nat.le_of_ble_eq_true rfl)) dX13_readLine_106 ⟨Nat.zero_le _, Nat.zero_le _⟩) hS (fun H locs hP hD hT hS => ?_)
                refine lv_goto (tgt := 165) hx hb dX13_readLine_109 rfl ?_
                exact r_vret hx hb hr hlocks hP hK hD hT hG hS (Option.some.inj h) dX13_readLine_165
            · replace h := ite_f c12 h
              refine lv_aload_n hx hb dX13_readLine_89 rfl (lv_at hl 0 rfl) ?_
              obtain ⟨z26, h26, h⟩ := ob_some h
              refine k_v (va_runV (As := []) (rest := []) ⟨hx, hb, hml, hown, hts⟩ (c_X13_readFields (l := l) M a0 k0 h26) (cwV 0 hts gX13_readLine_X13_readFields rfl rfl rfl hdV_X13_readFields ⟨Nat.le_of_ble_eq_true rfl, Nat.le_of_ble_eq_true rfl⟩) (pV (T := TX13) hP hK hD hT hG hS k0 (by decide) rfl) rfl rfl hl.1 rfl (lv_room (Nat.le_of_ble_eq_true rfl)) dX13_readLine_90 ⟨Nat.zero_le _, Nat.zero_le _⟩) hS (fun H locs hP hD hT hS => ?_)
              refine lv_goto (tgt := 165) hx hb dX13_readLine_93 rfl ?_
              exact r_vret hx hb hr hlocks hP hK hD hT hG hS (Option.some.inj h) dX13_readLine_165
          · replace h := ite_f c10 h
            refine lv_aload_n hx hb dX13_readLine_73 rfl (lv_at hl 0 rfl) ?_
            obtain ⟨z27, h27, h⟩ := ob_some h
            refine k_v (va_runV (As := []) (rest := []) ⟨hx, hb, hml, hown, hts⟩ (c_X13_readLand (l := l) M a0 k0 h27) (cwV 0 hts gX13_readLine_X13_readLand rfl rfl rfl hdV_X13_readLand ⟨Nat.le_of_ble_eq_true rfl, Nat.le_of_ble_eq_true rfl⟩) (pV (T := TX13) hP hK hD hT hG hS k0 (by decide) rfl) rfl rfl hl.1 rfl (lv_room (Nat.le_of_ble_eq_true rfl)) dX13_readLine_74 ⟨Nat.zero_le _, Nat.zero_le _⟩) hS (fun H locs hP hD hT hS => ?_)
            refine lv_goto (tgt := 165) hx hb dX13_readLine_77 rfl ?_
            exact r_vret hx hb hr hlocks hP hK hD hT hG hS (Option.some.inj h) dX13_readLine_165
        · replace h := ite_f c8 h
          refine lv_aload_n hx hb dX13_readLine_57 rfl (lv_at hl 0 rfl) ?_
          obtain ⟨z28, h28, h⟩ := ob_some h
          refine k_v (va_runV (As := []) (rest := []) ⟨hx, hb, hml, hown, hts⟩ (c_X13_readTrial (l := l) M a0 k0 h28) (cwV 0 hts gX13_readLine_X13_readTrial rfl rfl rfl hdV_X13_readTrial ⟨Nat.le_of_ble_eq_true rfl, Nat.le_of_ble_eq_true rfl⟩) (pV (T := TX13) hP hK hD hT hG hS k0 (by decide) rfl) rfl rfl hl.1 rfl (lv_room (Nat.le_of_ble_eq_true rfl)) dX13_readLine_58 ⟨Nat.zero_le _, Nat.zero_le _⟩) hS (fun H locs hP hD hT hS => ?_)
          refine lv_goto (tgt := 165) hx hb dX13_readLine_61 rfl ?_
          exact r_vret hx hb hr hlocks hP hK hD hT hG hS (Option.some.inj h) dX13_readLine_165
      · replace h := ite_f c6 h
        refine lv_aload_n hx hb dX13_readLine_41 rfl (lv_at hl 0 rfl) ?_
        obtain ⟨z29, h29, h⟩ := ob_some h
        refine k_v (va_runV (As := []) (rest := []) ⟨hx, hb, hml, hown, hts⟩ (c_X13_readStatue (l := l) M a0 k0 h29) (cwV 0 hts gX13_readLine_X13_readStatue rfl rfl rfl hdV_X13_readStatue ⟨Nat.le_of_ble_eq_true rfl, Nat.le_of_ble_eq_true rfl⟩) (pV (T := TX13) hP hK hD hT hG hS k0 (by decide) rfl) rfl rfl hl.1 rfl (lv_room (Nat.le_of_ble_eq_true rfl)) dX13_readLine_42 ⟨Nat.zero_le _, Nat.zero_le _⟩) hS (fun H locs hP hD hT hS => ?_)
        refine lv_goto (tgt := 165) hx hb dX13_readLine_45 rfl ?_
        exact r_vret hx hb hr hlocks hP hK hD hT hG hS (Option.some.inj h) dX13_readLine_165
    · replace h := ite_f c4 h
      refine lv_aload_n hx hb dX13_readLine_25 rfl (lv_at hl 0 rfl) ?_
      obtain ⟨z30, h30, h⟩ := ob_some h
      refine k_v (va_runV (As := []) (rest := []) ⟨hx, hb, hml, hown, hts⟩ (c_X13_readRoad (l := l) M a0 k0 h30) (cwV 0 hts gX13_readLine_X13_readRoad rfl rfl rfl hdV_X13_readRoad ⟨Nat.le_of_ble_eq_true rfl, Nat.le_of_ble_eq_true rfl⟩) (pV (T := TX13) hP hK hD hT hG hS k0 (by decide) rfl) rfl rfl hl.1 rfl (lv_room (Nat.le_of_ble_eq_true rfl)) dX13_readLine_26 ⟨Nat.zero_le _, Nat.zero_le _⟩) hS (fun H locs hP hD hT hS => ?_)
      refine lv_goto (tgt := 165) hx hb dX13_readLine_29 rfl ?_
      exact r_vret hx hb hr hlocks hP hK hD hT hG hS (Option.some.inj h) dX13_readLine_165
  · replace h := ite_f c2 h
    refine lv_aload_n hx hb dX13_readLine_9 rfl (lv_at hl 0 rfl) ?_
    obtain ⟨z31, h31, h⟩ := ob_some h
    refine k_v (va_runV (As := []) (rest := []) ⟨hx, hb, hml, hown, hts⟩ (c_X13_readWay (l := l) M a0 k0 h31) (cwV 0 hts gX13_readLine_X13_readWay rfl rfl rfl hdV_X13_readWay ⟨Nat.le_of_ble_eq_true rfl, Nat.le_of_ble_eq_true rfl⟩) (pV (T := TX13) hP hK hD hT hG hS k0 (by decide) rfl) rfl rfl hl.1 rfl (lv_room (Nat.le_of_ble_eq_true rfl)) dX13_readLine_10 ⟨Nat.zero_le _, Nat.zero_le _⟩) hS (fun H locs hP hD hT hS => ?_)
    refine lv_goto (tgt := 165) hx hb dX13_readLine_13 rfl ?_
    exact r_vret hx hb hr hlocks hP hK hD hT hG hS (Option.some.inj h) dX13_readLine_165
set_option maxHeartbeats 4000000 in
set_option maxRecDepth 100000 in
theorem c_X13_readIsland {l : Launch} {D : va_G} {ad : Nat → Nat} {cy : Nat → ClassId} {A : Nat → Prop} {g : CG} {q : SE} (M : MM) (a0 : Nat) (k0 : ok g a0 13 0) {Z : MM} (h : f_X13_readIsland M a0 = some Z) : Met l yX13_readIsland wsX13_readIsland ({ frames := 11, cells := 0, slots := 0, locals := 241 }) (va_Pc [.ref (ad a0)] (Wd D ad cy A g q M)) (va_Qv (fun u => u = Z) (Wd D ad cy A g q) A) 0 0 A := by
  refine Met.ofW (cc := cX13_readIsland) (maxL := 2) (ret := none) (by decide) rfl ?_
  intro p e s m args below meth c s₁ B hml hv
  obtain ⟨rfl, hP, hK, hD, hT, hG⟩ := hv
  have hx := B.exec
  have hb := B.bytes
  have hr := B.returns
  have hts := atoms_spec (ws := wsX13_readIsland) B.pre
  have hown : s.vm.findClass RX13 = some m.cls := findClass_of_methodNamed B.named
  have hlocks := B.notSynchronized
  have in12 : ∀ w ∈ u_ws RX12 TX12 48, w ∈ wsX13_readIsland := fun w h => List.mem_cons_of_mem _ (List.mem_append_right _ h)
  have in13 : ∀ w ∈ u_ws RX13 TX13 29, w ∈ wsX13_readIsland := fun w h => List.mem_cons_of_mem _ (List.mem_append_left _ (List.mem_append_right _ h))
  have hS : va_S A s.heap s.heap [] := va_S.rf
  have hl := lv_entry ([.ref (ad a0)]) (n := 2) (Nat.le_of_ble_eq_true rfl)
  rw [lg_entry_eq]
  generalize (lg_sl ([.ref (ad a0)]) ++ List.replicate (2 - (lg_sl ([.ref (ad a0)])).length) Slot.unset).toArray = ls at hl ⊢
  have hl : lv_has ls 2 [(0, .ref (ad a0))] := hl
  unfold f_X13_readIsland at h
  refine lv_iconst (v := 1) hx hb dX13_readIsland_0 rfl ?_
  refine lv_istore_n (lv' := [(1, .int 1), (0, .ref (ad a0))]) hx hb dX13_readIsland_1 rfl hl (by decide) rfl (fun ls hl => ?_)
  have L1 : ∀ n1 : Nat, ∀ (M1 : MM) (y1_0 : Nat) (y1_1 : Int32) (ky1_0 : ok g y1_0 13 0) (H : Heap) (locs : List Loc), f_X13_readIsland_L2 n1 M1 y1_0 y1_1 = some Z → va_P D vwCl (wd ad cy g M1) H → va_D A (wd ad cy g M1) → WT g M1 → va_S A s.heap H locs → ∀ (ls : Array Slot), lv_has ls 2 [(0, .ref (ad y1_0)), (1, .int y1_1)] → W p l e ((headSpec wsX13_readIsland ({ frames := 11, cells := 0, slots := 0, locals := 241 })).room) s m (([.ref (ad a0)] : List Value).toArray) below meth c H locs 0 0 (MQ below (va_Qv (fun u => u = Z) (Wd D ad cy A g q) A) ([.ref (ad a0)]).toArray s 0 0 A) (F0 m 2 ls []) := by
    intro n1
    induction n1 with
    | zero => intro M1 y1_0 y1_1 ky1_0 H locs h; exact absurd h (by simp [f_X13_readIsland_L2])
    | succ n1 ih1 =>
      intro M1 y1_0 y1_1 ky1_0 H locs h hP hD hT hS ls hl
      rw [f_X13_readIsland_L2] at h
      refine lv_iload_n hx hb dX13_readIsland_2 rfl (lv_at hl 1 rfl) ?_
      refine lv_if_eq (tgt := 20) hx hb dX13_readIsland_3 rfl (fun c2 => ?_) (fun c2 => ?_)
      · replace h := ite_t c2 h
        refine lv_aload_n hx hb dX13_readIsland_20 rfl (lv_at hl 0 rfl) ?_
        refine r_get (T := TX13) (v := .int (gI M1 y1_0 9)) hx hb hts in13 hown hK hP ky1_0 (by decide) rfl 9 (by decide) (hts (.fieldLink RX13 58 "StoneWalkModel" "sort" "I") (List.mem_of_getElem? (i := 1) (by decide +kernel))) rfl (t := 0) rfl rfl dX13_readIsland_21 ?_
        refine lv_iconst (v := 1) hx hb dX13_readIsland_24 rfl ?_
        refine lv_icmp_eq (tgt := 33) hx hb dX13_readIsland_25 rfl (fun c3 => ?_) (fun c3 => ?_)
        · replace h := ite_t c3 h
          refine lv_aload_n hx hb dX13_readIsland_33 rfl (lv_at hl 0 rfl) ?_
          rcases hN4 : gR M1 y1_0 4 with _ | b4
          · replace h := oc_n hN4 h
            refine r_get (T := TX13) (v := .null) hx hb hts in13 hown hK hP ky1_0 (by decide) rfl 4 (by decide) (hts (.fieldLink RX13 150 "StoneWalkModel" "read" "LStoneWalkModel$Island;") (List.mem_of_getElem? (i := 2) (by decide +kernel))) rfl (t := 2) rfl (by show va_rf _ = _; rw [hN4]; rfl) dX13_readIsland_34 ?_
            exact absurd h (by simp)
          · replace h := oc_s hN4 h
            have kb4 := hT.f ky1_0 (k := 4) (t := 12) (n := 0) rfl hN4
            refine r_get (T := TX13) (v := .ref (ad b4)) hx hb hts in13 hown hK hP ky1_0 (by decide) rfl 4 (by decide) (hts (.fieldLink RX13 150 "StoneWalkModel" "read" "LStoneWalkModel$Island;") (List.mem_of_getElem? (i := 2) (by decide +kernel))) rfl (t := 2) rfl (by show va_rf _ = _; rw [hN4]; rfl) dX13_readIsland_34 ?_
            refine r_getN (T := TX12) (v := .int (gI M1 b4 0)) hx hb hts in12 hown hK hP kb4 (by decide) rfl 0 (by decide) (hG.2.2.1 ("StoneWalkModel", 185, "StoneWalkModel$Island", "ways", "I", "StoneWalkModel") (List.mem_of_getElem? (i := 5) rfl)) rfl (t := 0) rfl rfl dX13_readIsland_37 ?_
            refine lv_if_eq (tgt := 63) hx hb dX13_readIsland_40 rfl (fun c5 => ?_) (fun c5 => ?_)
            · replace h := ite_t c5 h
              refine lv_aload_n hx hb dX13_readIsland_63 rfl (lv_at hl 0 rfl) ?_
              refine lv_bipush (v := 6) hx hb dX13_readIsland_64 rfl ?_
              obtain ⟨z6, h6, h⟩ := ob_some h
              refine k_v (va_runV (As := [.int 6]) (rest := []) ⟨hx, hb, hml, hown, hts⟩ (c_X13_wrong (l := l) M1 y1_0 6 ky1_0 h6) (cwV 1 hts gX13_readIsland_X13_wrong rfl rfl rfl hdV_X13_wrong ⟨Nat.le_of_ble_eq_true rfl, Nat.le_of_ble_eq_true rfl⟩) (pV (T := TX13) hP hK hD hT hG hS ky1_0 (by decide) rfl) rfl rfl hl.1 rfl (lv_room (Nat.le_of_ble_eq_true rfl)) dX13_readIsland_66 ⟨Nat.zero_le _, Nat.zero_le _⟩) hS (fun H locs hP hD hT hS => ?_)
              exact r_vret hx hb hr hlocks hP hK hD hT hG hS (Option.some.inj h) dX13_readIsland_69
            · replace h := ite_f c5 h
              refine lv_aload_n hx hb dX13_readIsland_43 rfl (lv_at hl 0 rfl) ?_
              rcases hN7 : gR M1 y1_0 4 with _ | b7
              · replace h := oc_n hN7 h
                refine r_get (T := TX13) (v := .null) hx hb hts in13 hown hK hP ky1_0 (by decide) rfl 4 (by decide) (hts (.fieldLink RX13 150 "StoneWalkModel" "read" "LStoneWalkModel$Island;") (List.mem_of_getElem? (i := 2) (by decide +kernel))) rfl (t := 2) rfl (by show va_rf _ = _; rw [hN7]; rfl) dX13_readIsland_44 ?_
                exact absurd h (by simp)
              · replace h := oc_s hN7 h
                have kb7 := hT.f ky1_0 (k := 4) (t := 12) (n := 0) rfl hN7
                refine r_get (T := TX13) (v := .ref (ad b7)) hx hb hts in13 hown hK hP ky1_0 (by decide) rfl 4 (by decide) (hts (.fieldLink RX13 150 "StoneWalkModel" "read" "LStoneWalkModel$Island;") (List.mem_of_getElem? (i := 2) (by decide +kernel))) rfl (t := 2) rfl (by show va_rf _ = _; rw [hN7]; rfl) dX13_readIsland_44 ?_
                refine r_getN (T := TX12) (v := .int (gI M1 b7 1)) hx hb hts in12 hown hK hP kb7 (by decide) rfl 1 (by decide) (hG.2.2.1 ("StoneWalkModel", 188, "StoneWalkModel$Island", "roads", "I", "StoneWalkModel") (List.mem_of_getElem? (i := 6) rfl)) rfl (t := 0) rfl rfl dX13_readIsland_47 ?_
                refine lv_if_eq (tgt := 63) hx hb dX13_readIsland_50 rfl (fun c8 => ?_) (fun c8 => ?_)
                · replace h := ite_t c8 h
                  refine lv_aload_n hx hb dX13_readIsland_63 rfl (lv_at hl 0 rfl) ?_
                  refine lv_bipush (v := 6) hx hb dX13_readIsland_64 rfl ?_
                  obtain ⟨z9, h9, h⟩ := ob_some h
                  refine k_v (va_runV (As := [.int 6]) (rest := []) ⟨hx, hb, hml, hown, hts⟩ (c_X13_wrong (l := l) M1 y1_0 6 ky1_0 h9) (cwV 1 hts gX13_readIsland_X13_wrong rfl rfl rfl hdV_X13_wrong ⟨Nat.le_of_ble_eq_true rfl, Nat.le_of_ble_eq_true rfl⟩) (pV (T := TX13) hP hK hD hT hG hS ky1_0 (by decide) rfl) rfl rfl hl.1 rfl (lv_room (Nat.le_of_ble_eq_true rfl)) dX13_readIsland_66 ⟨Nat.zero_le _, Nat.zero_le _⟩) hS (fun H locs hP hD hT hS => ?_)
                  exact r_vret hx hb hr hlocks hP hK hD hT hG hS (Option.some.inj h) dX13_readIsland_69
                · replace h := ite_f c8 h
                  refine lv_aload_n hx hb dX13_readIsland_53 rfl (lv_at hl 0 rfl) ?_
                  rcases hN10 : gR M1 y1_0 4 with _ | b10
                  · replace h := oc_n hN10 h
                    refine r_get (T := TX13) (v := .null) hx hb hts in13 hown hK hP ky1_0 (by decide) rfl 4 (by decide) (hts (.fieldLink RX13 150 "StoneWalkModel" "read" "LStoneWalkModel$Island;") (List.mem_of_getElem? (i := 2) (by decide +kernel))) rfl (t := 2) rfl (by show va_rf _ = _; rw [hN10]; rfl) dX13_readIsland_54 ?_
                    exact absurd h (by simp)
                  · replace h := oc_s hN10 h
                    have kb10 := hT.f ky1_0 (k := 4) (t := 12) (n := 0) rfl hN10
                    refine r_get (T := TX13) (v := .ref (ad b10)) hx hb hts in13 hown hK hP ky1_0 (by decide) rfl 4 (by decide) (hts (.fieldLink RX13 150 "StoneWalkModel" "read" "LStoneWalkModel$Island;") (List.mem_of_getElem? (i := 2) (by decide +kernel))) rfl (t := 2) rfl (by show va_rf _ = _; rw [hN10]; rfl) dX13_readIsland_54 ?_
                    refine r_getN (T := TX12) (v := .int (gI M1 b10 2)) hx hb hts in12 hown hK hP kb10 (by decide) rfl 2 (by decide) (hG.2.2.1 ("StoneWalkModel", 191, "StoneWalkModel$Island", "statues", "I", "StoneWalkModel") (List.mem_of_getElem? (i := 7) rfl)) rfl (t := 0) rfl rfl dX13_readIsland_57 ?_
                    refine lv_if_ne (tgt := 69) hx hb dX13_readIsland_60 rfl (fun c11 => ?_) (fun c11 => ?_)
                    · replace h := ite_f c11 h
                      exact r_vret hx hb hr hlocks hP hK hD hT hG hS (Option.some.inj h) dX13_readIsland_69
                    · replace h := ite_t c11 h
                      refine lv_aload_n hx hb dX13_readIsland_63 rfl (lv_at hl 0 rfl) ?_
                      refine lv_bipush (v := 6) hx hb dX13_readIsland_64 rfl ?_
                      obtain ⟨z12, h12, h⟩ := ob_some h
                      refine k_v (va_runV (As := [.int 6]) (rest := []) ⟨hx, hb, hml, hown, hts⟩ (c_X13_wrong (l := l) M1 y1_0 6 ky1_0 h12) (cwV 1 hts gX13_readIsland_X13_wrong rfl rfl rfl hdV_X13_wrong ⟨Nat.le_of_ble_eq_true rfl, Nat.le_of_ble_eq_true rfl⟩) (pV (T := TX13) hP hK hD hT hG hS ky1_0 (by decide) rfl) rfl rfl hl.1 rfl (lv_room (Nat.le_of_ble_eq_true rfl)) dX13_readIsland_66 ⟨Nat.zero_le _, Nat.zero_le _⟩) hS (fun H locs hP hD hT hS => ?_)
                      exact r_vret hx hb hr hlocks hP hK hD hT hG hS (Option.some.inj h) dX13_readIsland_69
        · replace h := ite_f c3 h
          refine lv_aload_n hx hb dX13_readIsland_28 rfl (lv_at hl 0 rfl) ?_
          refine lv_iconst (v := 1) hx hb dX13_readIsland_29 rfl ?_
          obtain ⟨z13, h13, h⟩ := ob_some h
          refine k_v (va_runV (As := [.int 1]) (rest := []) ⟨hx, hb, hml, hown, hts⟩ (c_X13_wrong (l := l) M1 y1_0 1 ky1_0 h13) (cwV 1 hts gX13_readIsland_X13_wrong rfl rfl rfl hdV_X13_wrong ⟨Nat.le_of_ble_eq_true rfl, Nat.le_of_ble_eq_true rfl⟩) (pV (T := TX13) hP hK hD hT hG hS ky1_0 (by decide) rfl) rfl rfl hl.1 rfl (lv_room (Nat.le_of_ble_eq_true rfl)) dX13_readIsland_30 ⟨Nat.zero_le _, Nat.zero_le _⟩) hS (fun H locs hP hD hT hS => ?_)
          refine lv_aload_n hx hb dX13_readIsland_33 rfl (lv_at hl 0 rfl) ?_
          rcases hN14 : gR z13 y1_0 4 with _ | b14
          · replace h := oc_n hN14 h
            refine r_get (T := TX13) (v := .null) hx hb hts in13 hown hK hP ky1_0 (by decide) rfl 4 (by decide) (hts (.fieldLink RX13 150 "StoneWalkModel" "read" "LStoneWalkModel$Island;") (List.mem_of_getElem? (i := 2) (by decide +kernel))) rfl (t := 2) rfl (by show va_rf _ = _; rw [hN14]; rfl) dX13_readIsland_34 ?_
            exact absurd h (by simp)
          · replace h := oc_s hN14 h
            have kb14 := hT.f ky1_0 (k := 4) (t := 12) (n := 0) rfl hN14
            refine r_get (T := TX13) (v := .ref (ad b14)) hx hb hts in13 hown hK hP ky1_0 (by decide) rfl 4 (by decide) (hts (.fieldLink RX13 150 "StoneWalkModel" "read" "LStoneWalkModel$Island;") (List.mem_of_getElem? (i := 2) (by decide +kernel))) rfl (t := 2) rfl (by show va_rf _ = _; rw [hN14]; rfl) dX13_readIsland_34 ?_
            refine r_getN (T := TX12) (v := .int (gI z13 b14 0)) hx hb hts in12 hown hK hP kb14 (by decide) rfl 0 (by decide) (hG.2.2.1 ("StoneWalkModel", 185, "StoneWalkModel$Island", "ways", "I", "StoneWalkModel") (List.mem_of_getElem? (i := 5) rfl)) rfl (t := 0) rfl rfl dX13_readIsland_37 ?_
            refine lv_if_eq (tgt := 63) hx hb dX13_readIsland_40 rfl (fun c15 => ?_) (fun c15 => ?_)
            · replace h := ite_t c15 h
              refine lv_aload_n hx hb dX13_readIsland_63 rfl (lv_at hl 0 rfl) ?_
              refine lv_bipush (v := 6) hx hb dX13_readIsland_64 rfl ?_
              obtain ⟨z16, h16, h⟩ := ob_some h
              refine k_v (va_runV (As := [.int 6]) (rest := []) ⟨hx, hb, hml, hown, hts⟩ (c_X13_wrong (l := l) z13 y1_0 6 ky1_0 h16) (cwV 1 hts gX13_readIsland_X13_wrong rfl rfl rfl hdV_X13_wrong ⟨Nat.le_of_ble_eq_true rfl, Nat.le_of_ble_eq_true rfl⟩) (pV (T := TX13) hP hK hD hT hG hS ky1_0 (by decide) rfl) rfl rfl hl.1 rfl (lv_room (Nat.le_of_ble_eq_true rfl)) dX13_readIsland_66 ⟨Nat.zero_le _, Nat.zero_le _⟩) hS (fun H locs hP hD hT hS => ?_)
              exact r_vret hx hb hr hlocks hP hK hD hT hG hS (Option.some.inj h) dX13_readIsland_69
            · replace h := ite_f c15 h
              refine lv_aload_n hx hb dX13_readIsland_43 rfl (lv_at hl 0 rfl) ?_
              rcases hN17 : gR z13 y1_0 4 with _ | b17
              · replace h := oc_n hN17 h
                refine r_get (T := TX13) (v := .null) hx hb hts in13 hown hK hP ky1_0 (by decide) rfl 4 (by decide) (hts (.fieldLink RX13 150 "StoneWalkModel" "read" "LStoneWalkModel$Island;") (List.mem_of_getElem? (i := 2) (by decide +kernel))) rfl (t := 2) rfl (by show va_rf _ = _; rw [hN17]; rfl) dX13_readIsland_44 ?_
                exact absurd h (by simp)
              · replace h := oc_s hN17 h
                have kb17 := hT.f ky1_0 (k := 4) (t := 12) (n := 0) rfl hN17
                refine r_get (T := TX13) (v := .ref (ad b17)) hx hb hts in13 hown hK hP ky1_0 (by decide) rfl 4 (by decide) (hts (.fieldLink RX13 150 "StoneWalkModel" "read" "LStoneWalkModel$Island;") (List.mem_of_getElem? (i := 2) (by decide +kernel))) rfl (t := 2) rfl (by show va_rf _ = _; rw [hN17]; rfl) dX13_readIsland_44 ?_
                refine r_getN (T := TX12) (v := .int (gI z13 b17 1)) hx hb hts in12 hown hK hP kb17 (by decide) rfl 1 (by decide) (hG.2.2.1 ("StoneWalkModel", 188, "StoneWalkModel$Island", "roads", "I", "StoneWalkModel") (List.mem_of_getElem? (i := 6) rfl)) rfl (t := 0) rfl rfl dX13_readIsland_47 ?_
                refine lv_if_eq (tgt := 63) hx hb dX13_readIsland_50 rfl (fun c18 => ?_) (fun c18 => ?_)
                · replace h := ite_t c18 h
                  refine lv_aload_n hx hb dX13_readIsland_63 rfl (lv_at hl 0 rfl) ?_
                  refine lv_bipush (v := 6) hx hb dX13_readIsland_64 rfl ?_
                  obtain ⟨z19, h19, h⟩ := ob_some h
                  refine k_v (va_runV (As := [.int 6]) (rest := []) ⟨hx, hb, hml, hown, hts⟩ (c_X13_wrong (l := l) z13 y1_0 6 ky1_0 h19) (cwV 1 hts gX13_readIsland_X13_wrong rfl rfl rfl hdV_X13_wrong ⟨Nat.le_of_ble_eq_true rfl, Nat.le_of_ble_eq_true rfl⟩) (pV (T := TX13) hP hK hD hT hG hS ky1_0 (by decide) rfl) rfl rfl hl.1 rfl (lv_room (Nat.le_of_ble_eq_true rfl)) dX13_readIsland_66 ⟨Nat.zero_le _, Nat.zero_le _⟩) hS (fun H locs hP hD hT hS => ?_)
                  exact r_vret hx hb hr hlocks hP hK hD hT hG hS (Option.some.inj h) dX13_readIsland_69
                · replace h := ite_f c18 h
                  refine lv_aload_n hx hb dX13_readIsland_53 rfl (lv_at hl 0 rfl) ?_
                  rcases hN20 : gR z13 y1_0 4 with _ | b20
                  · replace h := oc_n hN20 h
                    refine r_get (T := TX13) (v := .null) hx hb hts in13 hown hK hP ky1_0 (by decide) rfl 4 (by decide) (hts (.fieldLink RX13 150 "StoneWalkModel" "read" "LStoneWalkModel$Island;") (List.mem_of_getElem? (i := 2) (by decide +kernel))) rfl (t := 2) rfl (by show va_rf _ = _; rw [hN20]; rfl) dX13_readIsland_54 ?_
                    exact absurd h (by simp)
                  · replace h := oc_s hN20 h
                    have kb20 := hT.f ky1_0 (k := 4) (t := 12) (n := 0) rfl hN20
                    refine r_get (T := TX13) (v := .ref (ad b20)) hx hb hts in13 hown hK hP ky1_0 (by decide) rfl 4 (by decide) (hts (.fieldLink RX13 150 "StoneWalkModel" "read" "LStoneWalkModel$Island;") (List.mem_of_getElem? (i := 2) (by decide +kernel))) rfl (t := 2) rfl (by show va_rf _ = _; rw [hN20]; rfl) dX13_readIsland_54 ?_
                    refine r_getN (T := TX12) (v := .int (gI z13 b20 2)) hx hb hts in12 hown hK hP kb20 (by decide) rfl 2 (by decide) (hG.2.2.1 ("StoneWalkModel", 191, "StoneWalkModel$Island", "statues", "I", "StoneWalkModel") (List.mem_of_getElem? (i := 7) rfl)) rfl (t := 0) rfl rfl dX13_readIsland_57 ?_
                    refine lv_if_ne (tgt := 69) hx hb dX13_readIsland_60 rfl (fun c21 => ?_) (fun c21 => ?_)
                    · replace h := ite_f c21 h
                      exact r_vret hx hb hr hlocks hP hK hD hT hG hS (Option.some.inj h) dX13_readIsland_69
                    · replace h := ite_t c21 h
                      refine lv_aload_n hx hb dX13_readIsland_63 rfl (lv_at hl 0 rfl) ?_
                      refine lv_bipush (v := 6) hx hb dX13_readIsland_64 rfl ?_
                      obtain ⟨z22, h22, h⟩ := ob_some h
                      refine k_v (va_runV (As := [.int 6]) (rest := []) ⟨hx, hb, hml, hown, hts⟩ (c_X13_wrong (l := l) z13 y1_0 6 ky1_0 h22) (cwV 1 hts gX13_readIsland_X13_wrong rfl rfl rfl hdV_X13_wrong ⟨Nat.le_of_ble_eq_true rfl, Nat.le_of_ble_eq_true rfl⟩) (pV (T := TX13) hP hK hD hT hG hS ky1_0 (by decide) rfl) rfl rfl hl.1 rfl (lv_room (Nat.le_of_ble_eq_true rfl)) dX13_readIsland_66 ⟨Nat.zero_le _, Nat.zero_le _⟩) hS (fun H locs hP hD hT hS => ?_)
                      exact r_vret hx hb hr hlocks hP hK hD hT hG hS (Option.some.inj h) dX13_readIsland_69
      · replace h := ite_f c2 h
        refine lv_aload_n hx hb dX13_readIsland_6 rfl (lv_at hl 0 rfl) ?_
        obtain ⟨z23, h23, h⟩ := ob_some h
        refine k_v (va_runV (As := []) (rest := []) ⟨hx, hb, hml, hown, hts⟩ (c_X13_readLine (l := l) M1 y1_0 ky1_0 h23) (cwV 0 hts gX13_readIsland_X13_readLine rfl rfl rfl hdV_X13_readLine ⟨Nat.le_of_ble_eq_true rfl, Nat.le_of_ble_eq_true rfl⟩) (pV (T := TX13) hP hK hD hT hG hS ky1_0 (by decide) rfl) rfl rfl hl.1 rfl (lv_room (Nat.le_of_ble_eq_true rfl)) dX13_readIsland_7 ⟨Nat.zero_le _, Nat.zero_le _⟩) hS (fun H locs hP hD hT hS => ?_)
        refine lv_aload_n hx hb dX13_readIsland_10 rfl (lv_at hl 0 rfl) ?_
        refine lv_bipush (v := 59) hx hb dX13_readIsland_11 rfl ?_
        obtain ⟨z24, h24, h⟩ := ob_some h
        refine k_z (va_runV (As := [.int 59]) (rest := []) ⟨hx, hb, hml, hown, hts⟩ (c_X13_eatsSign (l := l) z23 y1_0 59 ky1_0 h24) (cwV 1 hts gX13_readIsland_X13_eatsSign rfl rfl rfl hdV_X13_eatsSign ⟨Nat.le_of_ble_eq_true rfl, Nat.le_of_ble_eq_true rfl⟩) (pV (T := TX13) hP hK hD hT hG hS ky1_0 (by decide) rfl) rfl rfl hl.1 rfl (lv_room (Nat.le_of_ble_eq_true rfl)) dX13_readIsland_13 ⟨Nat.zero_le _, Nat.zero_le _⟩) hS (fun H locs hz24 hP hD hT hS => ?_)
        refine lv_istore_n (lv' := [(1, .int z24.1), (0, .ref (ad y1_0))]) hx hb dX13_readIsland_16 rfl hl (by decide) rfl (fun ls hl => ?_)
        refine lv_goto (tgt := 2) hx hb dX13_readIsland_17 rfl ?_
        exact ih1 z24.2 y1_0 z24.1 ky1_0 _ _ h hP hD hT hS ls (lv_sub hl [1, 0] rfl)
  exact L1 FU M a0 1 k0 _ _ h hP hD hT hS ls (lv_sub hl [1, 0] rfl)
