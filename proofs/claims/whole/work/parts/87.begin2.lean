/-! THE START: texts, tables, classes -/
set_option maxRecDepth 100000 in
theorem rp_in : ∀ i, i < 57 → ((rpT.getD i ("", 0)).1, (rpT.getD i ("", 0)).2, i, none) ∈ nbT := by decide +kernel
set_option maxRecDepth 100000 in
theorem ln_in : ∀ i, i < 57 → lenS.getD i 0 < 2 ^ 31 := by decide +kernel
set_option maxRecDepth 100000 in
theorem tx_inj : ∀ i, i < 57 → ∀ j, j < 57 → lenS.getD i 0 = lenS.getD j 0 → (∀ k, k < lenS.getD i 0 → (bytS.getD i []).getD k 0 = (bytS.getD j []).getD k 0) → i = j := by decide +kernel
set_option maxRecDepth 100000 in
theorem ld_in : ∀ r ∈ ldT, r.2.2.2 < 57 ∧ ((r.1 = (rpT.getD r.2.2.2 ("", 0)).1 ∧ r.2.1 = (rpT.getD r.2.2.2 ("", 0)).2) ∨ (r.1, r.2.1, r.2.2.2, some (rpT.getD r.2.2.2 ("", 0))) ∈ nbT) := by decide +kernel
set_option maxRecDepth 100000 in
theorem st_in : ∀ t, t < 7 → t ∈ [0, 1, 2, 4, 6, 3, 5] ∧ stA.getD t ("", "", []) ∈ stA ∧ stl t < 2 ^ 31 := by decide +kernel
section BEG
variable {args : Array Value} {s : State}
theorem text_of (hf : ∀ c ∈ FLx, c.before args s = true) {A : Nat → Prop} (hA : ∀ a : Nat, a < s.heap.size → ¬ A a) {r : String × Nat × Nat × Option (String × Nat)} (hr : r ∈ nbT) (hn : lenS.getD r.2.2.1 0 < 2 ^ 31) : ∃ a t : Nat, (Term.string r.1 r.2.1).eval args s none [] s = some (.ref a) ∧ va_O "java/lang/String" a A s s.heap ∧ va_OF "java/lang/String" "coder" "B" (.int 0) a A s s.heap ∧ va_OF "java/lang/String" "value" "[B" (.ref t) a A s s.heap ∧ va_T .byte t (lenS.getD r.2.2.1 0) (fun j => .int ((bytS.getD r.2.2.1 []).getD j 0)) A s s.heap := by
  have hm : ∀ c ∈ blT r, c.before args s = true := fun c hc => hf c (mem_cut fl_T c (List.mem_flatMap.mpr ⟨r, hr, hc⟩))
  have hex := hm _ (List.mem_append_left _ (List.mem_append_left _ (List.mem_of_getElem? (i := 0) rfl)))
  have hco := hm _ (List.mem_append_left _ (List.mem_append_left _ (List.mem_of_getElem? (i := 1) rfl)))
  have har := hm _ (List.mem_append_left _ (List.mem_append_left _ (List.mem_of_getElem? (i := 2) rfl)))
  have hle := hm _ (List.mem_append_left _ (List.mem_append_left _ (List.mem_of_getElem? (i := 3) rfl)))
  have hel : ∀ j : Nat, j < lenS.getD r.2.2.1 0 → (Cond.eq (.elem (vaS r.1 r.2.1) (.int (Int32.ofNat j))) (.int ((bytS.getD r.2.2.1 []).getD j 0))).before args s = true := fun j hj => hm _ (List.mem_append_left _ (List.mem_append_right _ (List.mem_map.mpr ⟨j, List.mem_range.mpr hj, rfl⟩)))
  obtain ⟨a, c, cA, kA, q1, q2, q3, q4, q5, q6, -⟩ := Cond.exactly_spec (args := args) (first := s) (o := none) (s := s) (idx := []) (t := .string r.1 r.2.1) (cls := "java/lang/String") hex
  obtain ⟨t, ht, hT⟩ := va_Tof (f := fun j => .int ((bytS.getD r.2.2.1 []).getD j 0)) (A := A) hn har (va_eqt hle) (fun j hj => va_eqt (hel j hj)) hA
  exact ⟨a, t, q1, ⟨cA, q3, q5, by rw [q6]; exact q2, hA a (Array.getElem?_eq_some_iff.mp q3).1⟩, vk_OFof q1 (va_eqt hco) hA, vk_OFof q1 ht hA, hT⟩
theorem texts_of (hf : ∀ c ∈ FLx, c.before args s = true) (hs : ∀ w ∈ tables_1, w.before args s = true) {A : Nat → Prop} (hA : ∀ a : Nat, a < s.heap.size → ¬ A a) : ∃ adK adV : Nat → Nat, vk_S nS lenS bytS adK adV A s s.heap ∧ ∀ r ∈ ldT, vk_R r.1 r.2.1 r.2.2.1 (adK r.2.2.2) s := by
  have h0 : ∀ i : Nat, ∃ q : Nat × Nat, i < 57 → (Term.string (rpT.getD i ("", 0)).1 (rpT.getD i ("", 0)).2).eval args s none [] s = some (.ref q.1) ∧ va_O "java/lang/String" q.1 A s s.heap ∧ va_OF "java/lang/String" "coder" "B" (.int 0) q.1 A s s.heap ∧ va_OF "java/lang/String" "value" "[B" (.ref q.2) q.1 A s s.heap ∧ va_T .byte q.2 (lenS.getD i 0) (fun j => .int ((bytS.getD i []).getD j 0)) A s s.heap := by
    intro i
    by_cases hi : i < 57
    · obtain ⟨a, t, h⟩ := text_of hf hA (rp_in i hi) (ln_in i hi)
      exact ⟨(a, t), fun _ => h⟩
    · exact ⟨(0, 0), fun h => absurd h hi⟩
  obtain ⟨ad, had⟩ := Classical.axiomOfChoice h0
  refine ⟨fun i => (ad i).1, fun i => (ad i).2, ⟨fun i hi => (had i hi).2, fun i j hi hj e => ?_⟩, fun r hr => ?_⟩
  · have e : (ad i).1 = (ad j).1 := e
    obtain ⟨-, -, -, ⟨cf, k, fi, f, cell, g1, g2, g3, g4, g5, g6⟩, cv, b1, b2, b3, b4, b5, b6, b7⟩ := had i hi
    obtain ⟨-, -, -, ⟨cf', k', fi', f', cell', g1', g2', g3', g4', g5', g6'⟩, cv', b1', b2', b3', b4', b5', b6', b7'⟩ := had j hj
    cases g1.symm.trans g1'
    rw [← e] at g3'
    cases g3.symm.trans g3'
    have ev : (ad i).2 = (ad j).2 := Value.ref.inj (Option.some.inj (g5.symm.trans g5'))
    rw [← ev] at b1'
    cases b1.symm.trans b1'
    have el : lenS.getD i 0 = lenS.getD j 0 := (nI_eq (ln_in i hi) (ln_in j hj)).mp (b5.symm.trans b5')
    refine tx_inj i hi j hj el (fun x hx => ?_)
    exact Value.int.inj (Option.some.inj ((b6 x hx).symm.trans (b6' x (by rw [← el]; exact hx))))
  · obtain ⟨hi, hc⟩ := ld_in r hr
    have hs1 := hs _ (tb_S _ (List.mem_map.mpr ⟨r, hr, rfl⟩))
    obtain ⟨e1, -⟩ := had r.2.2.2 hi
    rcases hc with ⟨c1, c2⟩ | hc
    · rw [← c1, ← c2] at e1
      exact vk_R.of hs1 e1
    · have hm := hf _ (mem_cut fl_T _ (List.mem_flatMap.mpr ⟨_, hc, List.mem_append_right _ List.mem_cons_self⟩))
      exact vk_R.of hs1 (va_eqR hm e1)
theorem tabs_of (hf : ∀ c ∈ FLx, c.before args s = true) (hs : ∀ w ∈ tables_1, w.before args s = true) {A : Nat → Prop} (hA : ∀ a : Nat, a < s.heap.size → ¬ A a) : ∃ qz : Nat → Nat, ∀ t : Nat, t < 7 → va_Z (stA.getD t ("", "", [])).1 (stA.getD t ("", "", [])).2.1 "[I" (.ref (qz t)) A s s.heap ∧ va_T .int (qz t) (stl t) (fun j => .int (stv t j)) A s s.heap := by
  have h0 : ∀ t : Nat, ∃ z : Nat, t < 7 → va_Z (stA.getD t ("", "", [])).1 (stA.getD t ("", "", [])).2.1 "[I" (.ref z) A s s.heap ∧ va_T .int z (stl t) (fun j => .int (stv t j)) A s s.heap := by
    intro t
    by_cases ht : t < 7
    · obtain ⟨i1, i2, i3⟩ := st_in t ht
      have hm : ∀ c ∈ blZ t, c.before args s = true := fun c hc => hf c (mem_cut fl_Z c (List.mem_flatMap.mpr ⟨t, i1, hc⟩))
      have har := hm _ (List.mem_append_left _ (List.mem_of_getElem? (i := 1) rfl))
      have hle := hm _ (List.mem_append_left _ (List.mem_of_getElem? (i := 2) rfl))
      have hel : ∀ j : Nat, j < stl t → (Cond.eq (.elem (.static (stA.getD t ("", "", [])).1 (stA.getD t ("", "", [])).2.1 "[I") (.int (Int32.ofNat j))) (.int (stv t j))).before args s = true := fun j hj => hm _ (List.mem_append_right _ (List.mem_map.mpr ⟨j, List.mem_range.mpr hj, rfl⟩))
      obtain ⟨z, hz, hT⟩ := va_Tof (f := fun j => .int (stv t j)) (A := A) i3 har (va_eqt hle) (fun j hj => va_eqt (hel j hj)) hA
      exact ⟨z, fun _ => ⟨va_Zof (hs _ (tb_Z _ (List.mem_map.mpr ⟨_, i2, rfl⟩))) (hs _ (tb_I _ (List.mem_map.mpr ⟨_, i2, rfl⟩))) hz hA, hT⟩⟩
    · exact ⟨0, fun h => absurd h ht⟩
  obtain ⟨qz, hqz⟩ := Classical.axiomOfChoice h0
  exact ⟨qz, hqz⟩
theorem sf_of (hf : ∀ c ∈ FLx, c.before args s = true) (hs : ∀ w ∈ tables_1, w.before args s = true) {A : Nat → Prop} (hA : ∀ a : Nat, a < s.heap.size → ¬ A a) : ∃ q : SE, SF q A s s.heap := by
  obtain ⟨adK, adV, h1, h2⟩ := texts_of hf hs hA
  obtain ⟨qz, h3⟩ := tabs_of hf hs hA
  refine ⟨(qz, adK, adV), h3, fun r hr => va_Nw.of rfl (hs _ (tb_M _ (List.mem_map.mpr ⟨r, hr, rfl⟩))), fun r hr => va_Nw.of rfl (hs _ (tb_F _ (List.mem_map.mpr ⟨r, hr, rfl⟩))), h1, h2, ?_, ?_, fun C hC => va_AO.of (hs _ (tb_O _ (List.mem_map.mpr ⟨C, hC, rfl⟩)))⟩
  · exact va_Zof (hs _ (tb_X _ (List.mem_of_getElem? (i := 0) rfl))) (hs _ (tb_X _ (List.mem_of_getElem? (i := 1) rfl))) (va_eqt (hf _ (List.mem_of_getElem? fl_4))) hA
  · exact va_Zqof (hs _ (tb_X _ (List.mem_of_getElem? (i := 2) rfl))) (hs _ (tb_X _ (List.mem_of_getElem? (i := 3) rfl))) (hf _ (List.mem_of_getElem? fl_5)) hA
theorem lx_of (hf : ∀ c ∈ FLx, c.before args s = true) (hs : ∀ w ∈ tables_1, w.before args s = true) {A : Nat → Prop} (hA : ∀ a : Nat, a < s.heap.size → ¬ A a) : LXT A s s.heap :=
  ⟨vx_Zqof (hs _ (tb_X _ (List.mem_of_getElem? (i := 4) rfl))) (hs _ (tb_X _ (List.mem_of_getElem? (i := 6) rfl))) (hf _ (List.mem_of_getElem? fl_96)) hA, vx_Zqof (hs _ (tb_X _ (List.mem_of_getElem? (i := 5) rfl))) (hs _ (tb_X _ (List.mem_of_getElem? (i := 6) rfl))) (hf _ (List.mem_of_getElem? fl_97)) hA, va_Nw.of rfl (hs _ (tb_D _ (List.mem_of_getElem? (i := 0) rfl))), va_Nw.of rfl (hs _ (tb_D _ (List.mem_of_getElem? (i := 1) rfl))), va_Nw.of rfl (hs _ (tb_D _ (List.mem_of_getElem? (i := 2) rfl))), va_Nw.of rfl (hs _ (tb_X _ (List.mem_of_getElem? (i := 7) rfl)))⟩
theorem d_of (hl : ∀ w ∈ lw_tbl, w.before args s = true) : ∃ D : va_G, ∀ (c : Nat) (q : vw_C), vwCl[c]? = some q → u_Kn s q.1 q.2.1 q.2.2 (D.1 c) (D.2 c) := by
  have h0 : ∀ c : Nat, ∃ z : ClassId × (Nat → Nat), ∀ q : vw_C, vwCl[c]? = some q → u_Kn s q.1 q.2.1 q.2.2 z.1 z.2 := by
    intro c
    match c with
    | 0 =>
      obtain ⟨cC, iS, hk⟩ := u_known hl inX0 (hl _ (tab_in _ (tb_N _ (List.mem_map.mpr ⟨_, List.mem_of_getElem? (i := 0) rfl, rfl⟩))))
      exact ⟨(cC, iS), fun q hq => by cases hq; exact hk⟩
    | 1 =>
      obtain ⟨cC, iS, hk⟩ := u_known hl inX1 (hl _ (tab_in _ (tb_N _ (List.mem_map.mpr ⟨_, List.mem_of_getElem? (i := 1) rfl, rfl⟩))))
      exact ⟨(cC, iS), fun q hq => by cases hq; exact hk⟩
    | 2 =>
      obtain ⟨cC, iS, hk⟩ := u_known hl inX2 (hl _ (tab_in _ (tb_N _ (List.mem_map.mpr ⟨_, List.mem_of_getElem? (i := 2) rfl, rfl⟩))))
      exact ⟨(cC, iS), fun q hq => by cases hq; exact hk⟩
    | 3 =>
      obtain ⟨cC, iS, hk⟩ := u_known hl inX3 (hl _ (tab_in _ (tb_N _ (List.mem_map.mpr ⟨_, List.mem_of_getElem? (i := 3) rfl, rfl⟩))))
      exact ⟨(cC, iS), fun q hq => by cases hq; exact hk⟩
    | 4 =>
      obtain ⟨cC, iS, hk⟩ := u_known hl inX4 (hl _ (tab_in _ (tb_N _ (List.mem_map.mpr ⟨_, List.mem_of_getElem? (i := 4) rfl, rfl⟩))))
      exact ⟨(cC, iS), fun q hq => by cases hq; exact hk⟩
    | 5 =>
      obtain ⟨cC, iS, hk⟩ := u_known hl inX5 (hl _ (tab_in _ (tb_N _ (List.mem_map.mpr ⟨_, List.mem_of_getElem? (i := 5) rfl, rfl⟩))))
      exact ⟨(cC, iS), fun q hq => by cases hq; exact hk⟩
    | 6 =>
      obtain ⟨cC, iS, hk⟩ := u_known hl inX6 (hl _ (tab_in _ (tb_N _ (List.mem_map.mpr ⟨_, List.mem_of_getElem? (i := 6) rfl, rfl⟩))))
      exact ⟨(cC, iS), fun q hq => by cases hq; exact hk⟩
    | 7 =>
      obtain ⟨cC, iS, hk⟩ := u_known hl inX7 (hl _ (tab_in _ (tb_N _ (List.mem_map.mpr ⟨_, List.mem_of_getElem? (i := 7) rfl, rfl⟩))))
      exact ⟨(cC, iS), fun q hq => by cases hq; exact hk⟩
    | 8 =>
      obtain ⟨cC, iS, hk⟩ := u_known hl inX8 (hl _ (tab_in _ (tb_N _ (List.mem_map.mpr ⟨_, List.mem_of_getElem? (i := 8) rfl, rfl⟩))))
      exact ⟨(cC, iS), fun q hq => by cases hq; exact hk⟩
    | 9 =>
      obtain ⟨cC, iS, hk⟩ := u_known hl inX9 (hl _ (tab_in _ (tb_N _ (List.mem_map.mpr ⟨_, List.mem_of_getElem? (i := 9) rfl, rfl⟩))))
      exact ⟨(cC, iS), fun q hq => by cases hq; exact hk⟩
    | 10 =>
      obtain ⟨cC, iS, hk⟩ := u_known hl inX10 (hl _ (tab_in _ (tb_N _ (List.mem_map.mpr ⟨_, List.mem_of_getElem? (i := 10) rfl, rfl⟩))))
      exact ⟨(cC, iS), fun q hq => by cases hq; exact hk⟩
    | 11 =>
      obtain ⟨cC, iS, hk⟩ := u_known hl inX11 (hl _ (tab_in _ (tb_N _ (List.mem_map.mpr ⟨_, List.mem_of_getElem? (i := 11) rfl, rfl⟩))))
      exact ⟨(cC, iS), fun q hq => by cases hq; exact hk⟩
    | 12 =>
      obtain ⟨cC, iS, hk⟩ := u_known hl inX12 (hl _ (tab_in _ (tb_N _ (List.mem_map.mpr ⟨_, List.mem_of_getElem? (i := 12) rfl, rfl⟩))))
      exact ⟨(cC, iS), fun q hq => by cases hq; exact hk⟩
    | 13 =>
      obtain ⟨cC, iS, hk⟩ := u_known hl inX13 (hl _ (tab_in _ (tb_N _ (List.mem_map.mpr ⟨_, List.mem_of_getElem? (i := 13) rfl, rfl⟩))))
      exact ⟨(cC, iS), fun q hq => by cases hq; exact hk⟩
    | n + 14 => exact ⟨(0, fun _ => 0), fun q hq => by simp [vwCl] at hq⟩
  obtain ⟨F, hF⟩ := Classical.axiomOfChoice h0
  exact ⟨(fun k => (F k).1, fun k => (F k).2), hF⟩
theorem cy_of (hs : ∀ w ∈ tables_1, w.before args s = true) : ∃ cy : Nat → ClassId, ∀ (k : Nat) (q : ClassId × FieldType), (tyL cy)[k]? = some q → ArrOfT s q.1 q.2 ∧ va_RA s q.1 q.2 := by
  obtain ⟨c0, k0, m0, x0, y0, z0⟩ := Cond.arrayClass_spec (hs _ (tb_A _ (List.mem_of_getElem? (i := 0) rfl)))
  have g0 : ArrOfT s c0 .byte ∧ va_RA s c0 .byte := ⟨fun n z => ⟨fun k h => (by cases h), k0, y0, m0, z0⟩, x0⟩
  obtain ⟨c1, k1, m1, x1, y1, z1⟩ := Cond.arrayClass_spec (hs _ (tb_A _ (List.mem_of_getElem? (i := 1) rfl)))
  have g1 : ArrOfT s c1 .int ∧ va_RA s c1 .int := ⟨fun n z => ⟨fun k h => (by cases h), k1, y1, m1, z1⟩, x1⟩
  obtain ⟨c2, k2, m2, x2, y2, z2⟩ := Cond.arrayClass_spec (hs _ (tb_A _ (List.mem_of_getElem? (i := 2) rfl)))
  have g2 : ArrOfT s c2 .long ∧ va_RA s c2 .long := ⟨fun n z => ⟨fun k h => (by cases h), k2, y2, m2, z2⟩, x2⟩
  obtain ⟨c3, k3, m3, x3, y3, z3⟩ := Cond.arrayClass_spec (hs _ (tb_A _ (List.mem_of_getElem? (i := 3) rfl)))
  have g3 : ArrOfT s c3 .boolean ∧ va_RA s c3 .boolean := ⟨fun n z => ⟨fun k h => (by cases h), k3, y3, m3, z3⟩, x3⟩
  obtain ⟨m4, c4, k4, w4, -, y4, z4, x4⟩ := Cond.arrayOver_spec (hs _ (tb_O _ (List.mem_of_getElem? (i := 1) rfl)))
  have g4 : ArrOfT s c4 (.object "StoneWalk$Road") ∧ va_RA s c4 (.object "StoneWalk$Road") := ⟨fun n z => ⟨fun k h => (by cases h), k4, y4, m4, z4⟩, k4, m4, y4, z4, w4, x4⟩
  obtain ⟨m5, c5, k5, w5, -, y5, z5, x5⟩ := Cond.arrayOver_spec (hs _ (tb_O _ (List.mem_of_getElem? (i := 2) rfl)))
  have g5 : ArrOfT s c5 (.object "StoneWalk$Stone") ∧ va_RA s c5 (.object "StoneWalk$Stone") := ⟨fun n z => ⟨fun k h => (by cases h), k5, y5, m5, z5⟩, k5, m5, y5, z5, w5, x5⟩
  obtain ⟨m6, c6, k6, w6, -, y6, z6, x6⟩ := Cond.arrayOver_spec (hs _ (tb_O _ (List.mem_of_getElem? (i := 4) rfl)))
  have g6 : ArrOfT s c6 (.object "StoneWalk$Story") ∧ va_RA s c6 (.object "StoneWalk$Story") := ⟨fun n z => ⟨fun k h => (by cases h), k6, y6, m6, z6⟩, k6, m6, y6, z6, w6, x6⟩
  obtain ⟨m7, c7, k7, w7, -, y7, z7, x7⟩ := Cond.arrayOver_spec (hs _ (tb_O _ (List.mem_of_getElem? (i := 5) rfl)))
  have g7 : ArrOfT s c7 (.object "StoneWalk$Teller") ∧ va_RA s c7 (.object "StoneWalk$Teller") := ⟨fun n z => ⟨fun k h => (by cases h), k7, y7, m7, z7⟩, k7, m7, y7, z7, w7, x7⟩
  obtain ⟨m8, c8, k8, w8, -, y8, z8, x8⟩ := Cond.arrayOver_spec (hs _ (tb_O _ (List.mem_of_getElem? (i := 3) rfl)))
  have g8 : ArrOfT s c8 (.object "StoneWalk$Trial") ∧ va_RA s c8 (.object "StoneWalk$Trial") := ⟨fun n z => ⟨fun k h => (by cases h), k8, y8, m8, z8⟩, k8, m8, y8, z8, w8, x8⟩
  obtain ⟨m9, c9, k9, w9, -, y9, z9, x9⟩ := Cond.arrayOver_spec (hs _ (tb_O _ (List.mem_of_getElem? (i := 0) rfl)))
  have g9 : ArrOfT s c9 (.object "StoneWalk$Way") ∧ va_RA s c9 (.object "StoneWalk$Way") := ⟨fun n z => ⟨fun k h => (by cases h), k9, y9, m9, z9⟩, k9, m9, y9, z9, w9, x9⟩
  refine ⟨fun k => if k = 14 then c0 else if k = 15 then c1 else if k = 16 then c2 else if k = 17 then c3 else if k = 18 then c4 else if k = 19 then c5 else if k = 20 then c6 else if k = 21 then c7 else if k = 22 then c8 else c9, fun k q hq => ?_⟩
  match k, hq with
  | 0, hq => cases hq; exact g0
  | 1, hq => cases hq; exact g1
  | 2, hq => cases hq; exact g2
  | 3, hq => cases hq; exact g3
  | 4, hq => cases hq; exact g4
  | 5, hq => cases hq; exact g5
  | 6, hq => cases hq; exact g6
  | 7, hq => cases hq; exact g7
  | 8, hq => cases hq; exact g8
  | 9, hq => cases hq; exact g9
  | n + 10, hq => simp [tyL] at hq
end BEG
