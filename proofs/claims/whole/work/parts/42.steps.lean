/-! THE READERS' STEPS, side by side -/
def wsel (R : MM) (t : Nat) : Int32 := if gI R 118 9 = 2 then idx (wordsL (txt t) 0) 0 (gL R 118 15) else -1
theorem AL.lx {C R : MM} {n s : Nat} (h : AL C R n s) : LX C R := h.2.2.2.2.2.2
theorem AL.among {C R : MM} {n s t : Nat} (h : AL C R n s) (ht : t < 57) : f_X7_among C 2 t = some (wsel R t) := by
  rw [among_c C ht]
  unfold wsel
  rcases h.lx with ⟨a, b⟩ | ⟨a, b, c⟩ | ⟨a, b, -⟩ | ⟨a, b, -⟩ | ⟨a, b⟩
  · rw [a, b]; rfl
  · rw [a, b, c]; rfl
  · rw [a, b]; rfl
  · rw [a, b]; rfl
  · rw [a, b]; rfl
theorem AL.word {C R : MM} {n s : Nat} (h : AL C R n s) : gI C 2 4 = 1 ↔ gI R 118 9 = 2 := by
  rcases h.lx with ⟨a, b⟩ | ⟨a, b, c⟩ | ⟨a, b, -⟩ | ⟨a, b, -⟩ | ⟨a, b⟩ <;> rw [a, b] <;> decide
theorem AL.whole {C R : MM} {n s : Nat} (h : AL C R n s) : gI C 2 4 = 2 ↔ gI R 118 9 = 3 := by
  rcases h.lx with ⟨a, b⟩ | ⟨a, b, c⟩ | ⟨a, b, -⟩ | ⟨a, b, -⟩ | ⟨a, b⟩ <;> rw [a, b] <;> decide
theorem AL.sign {C R : MM} {n s : Nat} (h : AL C R n s) : gI C 2 4 = 3 ↔ gI R 118 9 = 4 := by
  rcases h.lx with ⟨a, b⟩ | ⟨a, b, c⟩ | ⟨a, b, -⟩ | ⟨a, b, -⟩ | ⟨a, b⟩ <;> rw [a, b] <;> decide
theorem AL.wordv {C R : MM} {n s : Nat} (h : AL C R n s) (e : gI C 2 4 = 1) : gL C 2 6 = gL R 118 15 := by
  rcases h.lx with ⟨a, b⟩ | ⟨a, b, c⟩ | ⟨a, b, -⟩ | ⟨a, b, -⟩ | ⟨a, b⟩
  · exact absurd (e.symm.trans a) (by decide)
  · exact c
  · exact absurd (e.symm.trans a) (by decide)
  · exact absurd (e.symm.trans a) (by decide)
  · exact absurd (e.symm.trans a) (by decide)
theorem AL.wholev {C R : MM} {n s : Nat} (h : AL C R n s) (e : gI C 2 4 = 2) : ∃ w, w ≤ 999 ∧ gL C 2 6 = lN w ∧ gI R 118 12 = nI w := by
  rcases h.lx with ⟨a, b⟩ | ⟨a, b, c⟩ | ⟨a, b, c⟩ | ⟨a, b, -⟩ | ⟨a, b⟩
  · exact absurd (e.symm.trans a) (by decide)
  · exact absurd (e.symm.trans a) (by decide)
  · exact c
  · exact absurd (e.symm.trans a) (by decide)
  · exact absurd (e.symm.trans a) (by decide)
theorem AL.signv {C R : MM} {n s : Nat} (h : AL C R n s) (e : gI C 2 4 = 3) : ∃ b : Int32, (b = 59 ∨ b = 44) ∧ gL C 2 6 = b.toInt64 ∧ gI R 118 11 = b := by
  rcases h.lx with ⟨a, b⟩ | ⟨a, b, c⟩ | ⟨a, b, -⟩ | ⟨a, b, c⟩ | ⟨a, b⟩
  · exact absurd (e.symm.trans a) (by decide)
  · exact absurd (e.symm.trans a) (by decide)
  · exact absurd (e.symm.trans a) (by decide)
  · exact c
  · exact absurd (e.symm.trans a) (by decide)
theorem DE.no {C R : MM} {n s : Nat} (h : DE C R n) (h2 : AL C R n s) : False := h.2.2.1 h2.1
theorem AL.ne5 {C R : MM} {n s : Nat} (h : AL C R n s) : ¬ gI R 118 9 = 5 := h.lx.ne5
theorem wsel_de {C R : MM} {n : Nat} (h : DE C R n) (t : Nat) : wsel R t = -1 := by
  unfold wsel
  rw [if_neg (by rw [h.1]; decide)]
theorem wsel_word {R : MM} {t : Nat} (h : wsel R t ≠ -1) : gI R 118 9 = 2 := by
  by_cases e : gI R 118 9 = 2
  · exact e
  · unfold wsel at h
    rw [if_neg e] at h
    exact absurd rfl h
theorem de_fail {C R : MM} {n : Nat} (h : DE C R n) (x : Int32) : f_X2_fail C 4 x = some C := by
  unfold f_X2_fail
  rw [if_neg h.2.2.1]
/-- a step of both: what it writes, where it ends, what is known if no fault was told -/
def OP (C R : MM) (n s : Nat) (C' R' : MM) (P : Prop) : Prop := PFc C C' ∧ PFr R R' ∧ ∃ s', S2 C' R' n s' ∧ (AL C' R' n s' → AL C R n s ∧ s < s' ∧ P)
theorem OP.imp {C R C' R' : MM} {n s : Nat} {P Q : Prop} (h : OP C R n s C' R' P) (f : AL C R n s → P → Q) : OP C R n s C' R' Q := by
  obtain ⟨a, b, s', c, d⟩ := h
  exact ⟨a, b, s', c, fun z => ⟨(d z).1, (d z).2.1, f (d z).1 (d z).2.2⟩⟩
theorem OP.de {C R C' R' : MM} {n s : Nat} {P : Prop} (hc : PFc C C') (hr : PFr R R') (h : DE C' R' n) : OP C R n s C' R' P := ⟨hc, hr, 0, Or.inr h, fun z => (h.no z).elim⟩
theorem op_adv {C R : MM} {jr n s : Nat} (hF : RF C R jr) (h : S2 C R n s) {P : Prop} (h0 : AL C R n s → (gI C 2 4 = 1 ∨ gI C 2 4 = 2 ∨ gI C 2 4 = 3) ∧ P) : ∃ C' R', f_X7_advance C 2 = some C' ∧ f_X13_goesOn R 118 = some R' ∧ OP C R n s C' R' P := by
  have hne : ∀ x : Int32, (x = 1 ∨ x = 2 ∨ x = 3) → x ≠ 0 ∧ x ≠ 4 := by
    intro x q
    rcases q with rfl | rfl | rfl <;> decide
  obtain ⟨C', R', a1, a2, a3, a4, a5⟩ := p_adv hF h (fun z => (hne _ (h0 z).1).1)
  refine ⟨C', R', a1, a2, a3, a4, ?_⟩
  rcases a5 with ⟨b1, s', b2, b3, b4⟩ | ⟨b1, b2, b3⟩
  · exact ⟨s', Or.inl b4, fun _ => ⟨b1, b3 (hne _ (h0 b1).1).2, (h0 b1).2⟩⟩
  · exact ⟨s, Or.inr b3, fun z => (b3.no z).elim⟩
/-- a fault, and on -/
theorem op_stop {C R : MM} {jr n s : Nat} (hF : RF C R jr) (h : S2 C R n s) (x : Int32) (hx : 0 < x) : ∃ C1 R1 C2, f_X2_fail C 4 x = some C1 ∧ f_X13_wrong R 118 x = some R1 ∧ gR C1 4 0 = some 2 ∧ f_X7_advance C1 2 = some C2 ∧ f_X13_goesOn R1 118 = some R1 ∧ PFc C C2 ∧ PFr R R1 ∧ DE C2 R1 n := by
  obtain ⟨C1, R1, a1, a2, a3, a4, a5⟩ := p_fail hF h x hx
  have hF1 : RF C1 R1 jr := hF.congr a3.1 a4.1
  obtain ⟨C2, b1, b2, b3⟩ := de_adv hF1 a5
  exact ⟨C1, R1, C2, a1, a2, hF1.1, b1, de_goes a5, a3.tr b2, a4, b3⟩
theorem ite_ob {α β : Type} {p : Prop} [Decidable p] (a : Option α) (b : α) (K : α → Option β) : (if p then ob a K else K b) = ob (if p then a else some b) K := by
  by_cases h : p
  · rw [if_pos h, if_pos h]
  · rw [if_neg h, if_neg h]; rfl
theorem b01 {β : Type} {p : Prop} [Decidable p] (x y : β) : (if (if p then (1 : Int32) else 0) = 0 then x else y) = if p then y else x := by
  by_cases h : p
  · rw [if_pos h, if_pos h, if_neg (by decide)]
  · rw [if_neg h, if_neg h, if_pos rfl]
/-- one of some words -/
theorem p_choice {C R : MM} {jr n s t : Nat} (hF : RF C R jr) (h : S2 C R n s) (ht : t < 57) : ∃ C' v R1 R', f_X2_choice C 4 t = some (v, C') ∧ (if wsel R t = -1 then f_X13_wrong R 118 1 else some R) = some R1 ∧ f_X13_goesOn R1 118 = some R' ∧ OP C R n s C' R' (v = wsel R t ∧ wsel R t ≠ -1) := by
  unfold f_X2_choice
  rw [hF.1]
  simp only [oc_x]
  rcases h with h | h
  · rw [h.among ht, ob_s]
    by_cases e : wsel R t = -1
    · obtain ⟨C1, R1, C2, a1, a2, a3, a4, a5, a6, a7, a8⟩ := op_stop hF (Or.inl h) 1 (by decide)
      refine ⟨C2, wsel R t, R1, R1, ?_, ?_, a5, OP.de a6 a7 a8⟩
      · rw [if_pos e, a1, ob_s, a3, oc_x, a4, ob_s]
      · rw [if_pos e, a2]
    · obtain ⟨C', R', a1, a2, a3⟩ := op_adv hF (Or.inl h) (P := (wsel R t = wsel R t ∧ wsel R t ≠ -1)) (fun _ => ⟨Or.inl (h.word.mpr (wsel_word e)), rfl, e⟩)
      refine ⟨C', wsel R t, R, R', ?_, ?_, a2, a3⟩
      · rw [if_neg e, a1, ob_s]
      · rw [if_neg e]
  · obtain ⟨C', b1, b2, b3⟩ := de_adv hF h
    have e : wsel R t = -1 := wsel_de h t
    rw [among_c C ht, ob_s]
    refine ⟨C', (if gI C 2 4 = 1 then idx (wordsL (txt t) 0) 0 (gL C 2 6) else -1), R, R, ?_, ?_, de_goes h, OP.de b2 (PFr.rf R) b3⟩
    · rw [de_fail h, ob_s, hF.1, oc_x, b1, ob_s]
      exact ite_self _
    · rw [if_pos e, de_wrong h]
theorem wsel_one {R : MM} {t : Nat} (ht : t < 57) (h1 : t ∉ [0, 1, 6, 11, 12, 19, 29]) : wsel R t = if gI R 118 9 = 2 then (if cd t = gL R 118 15 then 0 else -1) else -1 := by
  unfold wsel
  rw [W_one t ht h1]
  rfl
theorem needs_r {R : MM} {t : Nat} (ht : t < 57) (h1 : t ∉ [0, 1, 6, 11, 12, 19, 29]) : f_X13_needs R 118 t = ob (if wsel R t = -1 then f_X13_wrong R 118 1 else some R) (fun z => ob (f_X13_goesOn z 118) (fun z => some z)) := by
  unfold f_X13_needs
  rw [isWord_r R ht, ob_s, wsel_one ht h1]
  by_cases e : gI R 118 9 = 2
  · rw [if_pos e, if_pos e, b01]
    by_cases e2 : cd t = gL R 118 15
    · rw [if_pos e2, if_pos e2, if_neg (by decide)]; rfl
    · rw [if_neg e2, if_neg e2, if_pos rfl]
  · rw [if_neg e, if_neg e, if_pos rfl, if_pos rfl]
/-- one word -/
theorem p_need {C R : MM} {jr n s t : Nat} (hF : RF C R jr) (h : S2 C R n s) (ht : t < 57) (h1 : t ∉ [0, 1, 6, 11, 12, 19, 29]) : ∃ C' v R', f_X2_choice C 4 t = some (v, C') ∧ f_X13_needs R 118 t = some R' ∧ OP C R n s C' R' True := by
  obtain ⟨C', v, R1, R', a1, a2, a3, a4⟩ := p_choice hF h ht
  refine ⟨C', v, R', a1, ?_, a4.imp (fun _ _ => trivial)⟩
  rw [needs_r ht h1, a2, ob_s, a3, ob_s]
/-- a whole number -/
theorem p_whole {C R : MM} {jr n s : Nat} (hF : RF C R jr) (h : S2 C R n s) {l u l' u' : Int32} (hl : AL C R n s → l = l' ∧ u = u') : ∃ C' v v' R', f_X2_whole C 4 l u = some (v, C') ∧ f_X13_readWhole R 118 l' u' = some (v', R') ∧ OP C R n s C' R' (v = v' ∧ (∃ w, w ≤ 999 ∧ v = nI w) ∧ ¬ v < l ∧ v ≤ u) := by
  unfold f_X2_whole f_X13_readWhole
  rw [hF.1]
  simp only [oc_x]
  rcases h with h | h
  · by_cases t : gI C 2 4 = 2
    · rw [if_pos t]
      obtain ⟨w, w1, w2, w3⟩ := h.wholev t
      obtain ⟨rfl, rfl⟩ := hl h
      rw [if_pos (h.whole.mp t), in_eq, ob_s, w3, w2, lN_i]
      by_cases e : nI w < l
      · obtain ⟨C1, R1, C2, a1, a2, a3, a4, a5, a6, a7, a8⟩ := op_stop hF (Or.inl h) 4 (by decide)
        exact ⟨C2, nI w, gI R1 118 12, R1, by rw [if_pos e, a1, ob_s, a3, oc_x, a4, ob_s], by rw [if_pos e, if_pos rfl, a2, ob_s, a5, ob_s], OP.de a6 a7 a8⟩
      · by_cases e2 : u < nI w
        · obtain ⟨C1, R1, C2, a1, a2, a3, a4, a5, a6, a7, a8⟩ := op_stop hF (Or.inl h) 4 (by decide)
          exact ⟨C2, nI w, gI R1 118 12, R1, by rw [if_neg e, if_neg (Int32.not_le.mpr e2), a1, ob_s, a3, oc_x, a4, ob_s], by rw [if_neg e, if_pos e2, if_pos rfl, a2, ob_s, a5, ob_s], OP.de a6 a7 a8⟩
        · obtain ⟨C', R', a1, a2, a3⟩ := op_adv hF (Or.inl h) (P := (nI w = nI w ∧ (∃ x, x ≤ 999 ∧ nI w = nI x) ∧ ¬ nI w < l ∧ nI w ≤ u)) (fun _ => ⟨Or.inr (Or.inl t), rfl, ⟨w, w1, rfl⟩, e, i32_le e2⟩)
          exact ⟨C', nI w, nI w, R', by rw [if_neg e, if_pos (i32_le e2), a1, ob_s], by rw [if_neg e, if_neg e2, if_neg (by decide), a2, ob_s], a3⟩
    · rw [if_neg t, if_neg (fun z => t (h.whole.mpr z))]
      obtain ⟨C1, R1, a1, a2, a3, a4, a5⟩ := p_fail hF (Or.inl h) 1 (by decide)
      exact ⟨C1, -1, gI R1 118 12, R1, by rw [a1, ob_s], by rw [a2, ob_s, de_goes a5, ob_s], OP.de a3 a4 a5⟩
  · rw [if_neg (show ¬ gI R 118 9 = 3 by rw [h.1]; decide), de_wrong h, ob_s, de_goes h, ob_s, de_fail h, de_fail h]
    obtain ⟨C', b1, b2, b3⟩ := de_adv hF h
    by_cases t : gI C 2 4 = 2
    · refine ⟨C', (gL C 2 6).toInt32, _, R, ?_, rfl, OP.de b2 (PFr.rf R) b3⟩
      rw [if_pos t, ob_s, hF.1, oc_x, b1, ob_s]
      split
      · rfl
      · split <;> rfl
    · exact ⟨C, -1, _, R, by rw [if_neg t, ob_s], rfl, OP.de (PFc.rf C) (PFr.rf R) h⟩
theorem ob_none {α β : Type} (k : α → Option β) : ob none k = none := rfl
theorem ob_as {α β γ : Type} (a : Option α) (f : α → Option β) (k : β → Option γ) : ob (ob a f) k = ob a (fun x => ob (f x) k) := by
  cases a <;> rfl
theorem measure_c {C : MM} {t : Nat} {l u : Int32} {v : Int32} {C' : MM} (h : f_X2_choice C 4 t = some (v, C')) : f_X2_measure C 4 t l u = ob (f_X2_whole C' 4 l u) (fun z => some (z.1, z.2)) := by
  have e : f_X2_measure C 4 t l u = ob (f_X2_choice C 4 t) (fun z => ob (f_X2_whole z.2 4 l u) (fun z => some (z.1, z.2))) := by
    unfold f_X2_measure f_X2_choice
    cases gR C 4 0 with
    | none => rfl
    | some b =>
      simp only [oc_x, ob_as]
      congr 1
      funext z
      split
      · simp only [ob_as]
        congr 1
        funext y
        cases gR y 4 0 with
        | none => rfl
        | some d => simp only [oc_x, ob_as, ob_s]
      · simp only [ob_as, ob_s]
  rw [e, h, ob_s]
theorem OP.tr {C R C1 R1 C2 R2 : MM} {n s : Nat} {P Q : Prop} (h1 : OP C R n s C1 R1 P) (h2 : ∀ s', OP C1 R1 n s' C2 R2 Q) : OP C R n s C2 R2 (P ∧ Q) := by
  obtain ⟨a, b, s1, c, d⟩ := h1
  obtain ⟨a2, b2, s2, c2, d2⟩ := h2 s1
  refine ⟨a.tr a2, b.tr b2, s2, c2, fun z => ?_⟩
  obtain ⟨e1, e2, e3⟩ := d2 z
  obtain ⟨f1, f2, f3⟩ := d e1
  exact ⟨f1, by omega, f3, e3⟩
/-- a word and a number -/
theorem p_part {C R : MM} {jr n s t : Nat} (hF : RF C R jr) (h : S2 C R n s) (ht : t < 57) (h1 : t ∉ [0, 1, 6, 11, 12, 19, 29]) {l u l' u' : Int32} (hl : AL C R n s → l = l' ∧ u = u') : ∃ C' v v' R', f_X2_measure C 4 t l u = some (v, C') ∧ f_X13_readPart R 118 t l' u' = some (v', R') ∧ OP C R n s C' R' (v = v' ∧ (∃ w, w ≤ 999 ∧ v = nI w) ∧ ¬ v < l ∧ v ≤ u) := by
  obtain ⟨C1, v1, R1, a1, a2, a3, a4, s1, a5, a6⟩ := p_need hF h ht h1
  obtain ⟨C2, v, v', R2, b1, b2, b3, b4, s2, b5, b6⟩ := p_whole (hF.congr a3.1 a4.1) a5 (l := l) (u := u) (l' := l') (u' := u') (fun z => hl (a6 z).1)
  refine ⟨C2, v, v', R2, ?_, ?_, a3.tr b3, a4.tr b4, s2, b5, fun z => ?_⟩
  · rw [measure_c a1, b1, ob_s]
  · unfold f_X13_readPart
    rw [a2, ob_s, b2, ob_s]
  · obtain ⟨e1, e2, e3⟩ := b6 z
    obtain ⟨f1, f2, -⟩ := a6 e1
    exact ⟨f1, by omega, e3⟩
/-- a sign, if it stands there -/
theorem p_sign {C R : MM} {jr n s : Nat} (hF : RF C R jr) (h : S2 C R n s) {x : Int32} (hx : x = 59 ∨ x = 44) : ∃ C' v v' R', f_X2_passes C 4 x = some (v, C') ∧ f_X13_eatsSign R 118 x = some (v', R') ∧ PFc C C' ∧ PFr R R' ∧
    ((AL C R n s ∧ v = 1 ∧ v' = 1 ∧ ∃ s', s < s' ∧ AL C' R' n s') ∨ (AL C R n s ∧ v = 0 ∧ v' = 0 ∧ C' = C ∧ R' = R) ∨ (DE C R n ∧ DE C' R' n ∧ v' = 0 ∧ R' = R)) := by
  unfold f_X2_passes f_X13_eatsSign f_X7_isSign
  rw [hF.1]
  simp only [oc_x]
  rcases h with h | h
  · by_cases t : gI C 2 4 = 3
    · obtain ⟨b, b1, b2, b3⟩ := h.signv t
      rw [if_pos t, if_pos (h.sign.mp t), b2, b3]
      by_cases e : b = x
      · obtain ⟨C', R', a1, a2, a3, a4, a5⟩ := p_adv hF (Or.inl h) (fun _ => by rw [t]; decide)
        refine ⟨C', 1, 1, R', ?_, ?_, a3, a4, ?_⟩
        · rw [if_pos ((lg_cmp_eq _ _).mpr (by rw [e])), ob_s, if_neg (by decide), a1, ob_s]
        · rw [if_pos e, a2, ob_s]
        · rcases a5 with ⟨-, s', -, c2, c3⟩ | ⟨a5, -⟩
          · exact Or.inl ⟨h, rfl, rfl, s', c2 (by rw [t]; decide), c3⟩
          · exact (a5.no h).elim
      · have e2 : ¬ b.toInt64 = x.toInt64 := by
          rcases b1 with rfl | rfl <;> rcases hx with rfl | rfl
          · exact absurd rfl e
          · decide
          · decide
          · exact absurd rfl e
        exact ⟨C, 0, 0, R, by rw [if_neg (fun z => e2 ((lg_cmp_eq _ _).mp z)), ob_s, if_pos rfl], by rw [if_neg e], PFc.rf C, PFr.rf R, Or.inr (Or.inl ⟨h, rfl, rfl, rfl, rfl⟩)⟩
    · exact ⟨C, 0, 0, R, by rw [if_neg t, ob_s, if_pos rfl], by rw [if_neg (fun z => t (h.sign.mpr z))], PFc.rf C, PFr.rf R, Or.inr (Or.inl ⟨h, rfl, rfl, rfl, rfl⟩)⟩
  · rw [if_neg (show ¬ gI R 118 9 = 4 by rw [h.1]; decide)]
    obtain ⟨C', b1, b2, b3⟩ := de_adv hF h
    by_cases t : gI C 2 4 = 3
    · rw [if_pos t]
      by_cases e : lg_cmp (gL C 2 6) x.toInt64 = 0
      · exact ⟨C', 1, 0, R, by rw [if_pos e, ob_s, if_neg (by decide), b1, ob_s], rfl, b2, PFr.rf R, Or.inr (Or.inr ⟨h, b3, rfl, rfl⟩)⟩
      · exact ⟨C, 0, 0, R, by rw [if_neg e, ob_s, if_pos rfl], rfl, PFc.rf C, PFr.rf R, Or.inr (Or.inr ⟨h, h, rfl, rfl⟩)⟩
    · exact ⟨C, 0, 0, R, by rw [if_neg t, ob_s, if_pos rfl], rfl, PFc.rf C, PFr.rf R, Or.inr (Or.inr ⟨h, h, rfl, rfl⟩)⟩

