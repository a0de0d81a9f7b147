/-! THE LINES -/
def KC (C C' : MM) (sp : Nat) : Prop := C'.2.2 = C.2.2 ∧ (∀ a k, (a ≠ 2 ∨ k < 3) → (a ≠ 4 ∨ k < 4) → a ≠ 6 → a ≠ 7 → (a < sp ∨ sp + 52 ≤ a) → gI C' a k = gI C a k) ∧ ∀ a k, a ≠ 2 → a ≠ 5 → gL C' a k = gL C a k
def KR (R R' : MM) (jr : Nat) : Prop := R'.2.2 = R.2.2 ∧ (∀ a k, (a ≠ 118 ∨ k < 8 ∨ 14 < k) → a < jr → gI R' a k = gI R a k) ∧ ∀ a k, a ≠ 118 → a < jr → gL R' a k = gL R a k
theorem KC.rf (C : MM) (sp : Nat) : KC C C sp := ⟨rfl, fun _ _ _ _ _ _ _ => rfl, fun _ _ _ _ => rfl⟩
theorem KR.rf (R : MM) (jr : Nat) : KR R R jr := ⟨rfl, fun _ _ _ _ => rfl, fun _ _ _ _ => rfl⟩
theorem KC.tr {A B C : MM} {sp : Nat} (h1 : KC A B sp) (h2 : KC B C sp) : KC A C sp := ⟨h2.1.trans h1.1, fun a k q1 q2 q3 q4 q5 => (h2.2.1 a k q1 q2 q3 q4 q5).trans (h1.2.1 a k q1 q2 q3 q4 q5), fun a k q1 q2 => (h2.2.2 a k q1 q2).trans (h1.2.2 a k q1 q2)⟩
theorem KR.tr {A B C : MM} {jr : Nat} (h1 : KR A B jr) (h2 : KR B C jr) : KR A C jr := ⟨h2.1.trans h1.1, fun a k q1 q2 => (h2.2.1 a k q1 q2).trans (h1.2.1 a k q1 q2), fun a k q1 q2 => (h2.2.2 a k q1 q2).trans (h1.2.2 a k q1 q2)⟩
theorem QFc.k {C C' : MM} (h : QFc C C') (sp : Nat) : KC C C' sp := ⟨h.1, fun a k q1 q2 q3 q4 _ => h.2.1 a k q1 q2 q3 q4, h.2.2⟩
theorem QFr.k {R R' : MM} {jr : Nat} (h : QFr R R' jr) : KR R R' jr := ⟨h.1, fun a k q1 q2 => h.2.1 a k q1 (by omega) (by omega) (by omega), fun a k q1 q2 => h.2.2 a k q1 (by omega)⟩
theorem ZF.k {R R' : MM} {jr : Nat} (h : ZF R R' jr) : KR R R' jr := ⟨h.1, fun a k _ q2 => h.2.1 a k (by omega), fun a k _ _ => h.2.2 a k⟩
theorem KC.pI {C C' : MM} {sp : Nat} (h : KC C C' sp) {a : Nat} (ha : sp ≤ a ∧ a < sp + 52) (k : Nat) (v : Int32) : KC C (pI C' a k v) sp := ⟨h.1, fun b j q1 q2 q3 q4 q5 => by rw [gI_pIa (by omega)]; exact h.2.1 b j q1 q2 q3 q4 q5, h.2.2⟩
theorem KR.pI {R R' : MM} {jr : Nat} (h : KR R R' jr) {a : Nat} (ha : jr ≤ a) (k : Nat) (v : Int32) : KR R (pI R' a k v) jr := ⟨h.1, fun b j q1 q2 => by rw [gI_pIa (by omega)]; exact h.2.1 b j q1 q2, h.2.2⟩
/-- the same from 8 on, the same above the reference's fields -/
def E8 (A B : MM) : Prop := ∀ a j, 8 ≤ a → gI A a j = gI B a j
def EJ (A B : MM) (jr : Nat) : Prop := ∀ a j, jr ≤ a → (a ≠ jr ∨ j ≠ 8) → a < jr + 29 → gI A a j = gI B a j
theorem E8.rf (A : MM) : E8 A A := fun _ _ _ => rfl
theorem E8.tr {A B C : MM} (h1 : E8 A B) (h2 : E8 B C) : E8 A C := fun a j q => (h1 a j q).trans (h2 a j q)
theorem E8.pI {A B : MM} (h : E8 A B) (a k : Nat) (v : Int32) : E8 (pI A a k v) (pI B a k v) := fun b j q => by
  by_cases e : b = a ∧ j = k
  · rw [e.1, e.2, gI_pIs, gI_pIs]
  · rw [gI_pIn (fun z y => e ⟨z, y⟩), gI_pIn (fun z y => e ⟨z, y⟩)]; exact h b j q
theorem EJ.rf (A : MM) (jr : Nat) : EJ A A jr := fun _ _ _ _ _ => rfl
theorem EJ.tr {A B C : MM} {jr : Nat} (h1 : EJ A B jr) (h2 : EJ B C jr) : EJ A C jr := fun a j q1 q2 q3 => (h1 a j q1 q2 q3).trans (h2 a j q1 q2 q3)
theorem PFc.e {C C' : MM} (h : PFc C C') : E8 C' C := fun a j q => h.2.1 a j (by omega) (by omega)
theorem QFc.e {C C' : MM} (h : QFc C C') : E8 C' C := fun a j q => h.2.1 a j (by omega) (by omega) (by omega) (by omega)
theorem PFr.e {R R' : MM} (h : PFr R R') {jr : Nat} (hj : 123 < jr) : EJ R' R jr := fun a j q1 _ _ => h.2.1 a j (by omega)
theorem QFr.e {R R' : MM} {jr : Nat} (h : QFr R R' jr) (hj : 123 < jr) : EJ R' R jr := fun a j q1 q2 q3 => h.2.1 a j (by omega) q2 (by omega) (by omega)
theorem S2.back {C R : MM} {n s s' a k : Nat} {v : Int32} (h : S2 C R n s) (ha : 8 ≤ a) (h2 : AL (pI C a k v) R n s') : AL C R n s := h.elim id (fun z => ((z.put ha k v).no h2).elim)
def tot (nn : Nat → Nat) : Nat := nn 0 + nn 1 + nn 2 + nn 3 + nn 4 + nn 5 + nn 6
/-- a line's end -/
def LO (C R C' R' : MM) (sp jr n s : Nat) : Prop := KC C C' sp ∧ KR R R' jr ∧ ((∃ s' nn, s < s' ∧ AL C' R' n s' ∧ PI C' R' sp jr nn ∧ NM C' R' jr nn (tot nn)) ∨ DE C' R' n)
theorem PI.cn {C R : MM} {sp jr : Nat} {nn : Nat → Nat} (h : PI C R sp jr nn) : CN C sp nn := h.2.2.2.2.2.1
theorem PI.nb {C R : MM} {sp jr : Nat} {nn : Nat → Nat} (h : PI C R sp jr nn) : NB nn := h.2.2.1
theorem PI.dn {C R : MM} {sp jr : Nat} {nn : Nat → Nat} (h : PI C R sp jr nn) : DN (RD R jr) nn := h.2.2.2.2.2.2.2
theorem nI_m1 {m : Nat} (h : m < 100) : ¬ nI m = (-1 : Int32) := m1_nI (by omega)
theorem le7 : ∀ k, k < 7 → ¬ (7 : Int32) ≤ nI k := by decide +kernel
theorem tot_lt {nn : Nat → Nat} (h : NB nn) {k : Nat} (hk : k < 7) (hc : nn k < capN k) : tot nn < 35 := by
  obtain ⟨b0, b1, b2, b3, b4, b5, b6⟩ := h
  unfold tot
  have : k = 0 ∨ k = 1 ∨ k = 2 ∨ k = 3 ∨ k = 4 ∨ k = 5 ∨ k = 6 := by omega
  rcases this with rfl | rfl | rfl | rfl | rfl | rfl | rfl
  all_goals (simp only [capN, List.getD, List.getElem?_cons_zero, List.getElem?_cons_succ, Option.getD_some] at hc; omega)
theorem kind4 {β : Type} {R : MM} (J : Int32 → Option β) : ob (f_X13_isWord R 118 42) (fun z26 => if z26 = 0 then (ob (f_X13_isWord R 118 43) (fun z28 => if z28 = 0 then (ob (f_X13_isWord R 118 44) (fun z30 => if z30 = 0 then (ob (f_X13_isWord R 118 45) (fun z32 => if z32 = 0 then (J (-1)) else (J 3))) else (J 2))) else (J 1))) else (J 0)) = J (wsel R 1) := by
  simp only [isWord_r R (show 42 < 57 by decide), isWord_r R (show 43 < 57 by decide), isWord_r R (show 44 < 57 by decide), isWord_r R (show 45 < 57 by decide), ob_s]
  unfold wsel
  rw [W1]
  by_cases q : gI R 118 9 = 2
  · simp only [if_pos q, b01, idx]
    by_cases e1 : cd 42 = gL R 118 15
    · simp only [if_pos e1]
    by_cases e2 : cd 43 = gL R 118 15
    · simp only [if_neg e1, if_pos e2]; rfl
    by_cases e3 : cd 44 = gL R 118 15
    · simp only [if_neg e1, if_neg e2, if_pos e3]; rfl
    by_cases e4 : cd 45 = gL R 118 15
    · simp only [if_neg e1, if_neg e2, if_neg e3, if_pos e4]; rfl
    simp only [if_neg e1, if_neg e2, if_neg e3, if_neg e4]
  · simp only [if_neg q]; rfl
theorem sel4 {R : MM} (h : wsel R 1 ≠ -1) : ∃ k, k < 4 ∧ wsel R 1 = nI k := by
  unfold wsel at *
  rw [W1] at *
  by_cases q : gI R 118 9 = 2
  · simp only [if_pos q, idx] at h ⊢
    by_cases e1 : cd 42 = gL R 118 15
    · exact ⟨0, by decide, by simp only [if_pos e1]; rfl⟩
    by_cases e2 : cd 43 = gL R 118 15
    · exact ⟨1, by decide, by simp only [if_neg e1, if_pos e2]; rfl⟩
    by_cases e3 : cd 44 = gL R 118 15
    · exact ⟨2, by decide, by simp only [if_neg e1, if_neg e2, if_pos e3]; rfl⟩
    by_cases e4 : cd 45 = gL R 118 15
    · exact ⟨3, by decide, by simp only [if_neg e1, if_neg e2, if_neg e3, if_pos e4]; rfl⟩
    simp only [if_neg e1, if_neg e2, if_neg e3, if_neg e4] at h
    exact absurd rfl h
  · simp only [if_neg q] at h
    exact absurd rfl h
theorem NM.put {C R : MM} {jr t : Nat} {n : Nat → Nat} (h : NM C R jr n t) {a : Nat} (ha : 8 ≤ a) (k : Nat) (v : Int32) : NM (pI C a k v) R jr n t :=
  h.congr (gI_pIa (by omega)) (fun j => rfl) (fun j => gI_pIa (by omega)) (fun j => gI_pIa (by omega)) rfl (fun _ => rfl) (fun _ => rfl) (fun _ => rfl)
theorem NM.putr {C R : MM} {jr t : Nat} {n : Nat → Nat} (h : NM C R jr n t) {a k : Nat} (ha : a < jr + 29) (hk : a ≠ jr ∨ k ≠ 8) (v : Int32) : NM C (pI R a k v) jr n t :=
  h.congr rfl (fun _ => rfl) (fun _ => rfl) (fun _ => rfl) (gI_pIn (by omega)) (fun _ => rfl) (fun j => gI_pIa (by omega)) (fun j => gI_pIa (by omega))
theorem tot_up {nn : Nat → Nat} {k : Nat} (hk : k < 7) : tot (up nn k) = tot nn + 1 := by
  have : k = 0 ∨ k = 1 ∨ k = 2 ∨ k = 3 ∨ k = 4 ∨ k = 5 ∨ k = 6 := by omega
  unfold tot up
  rcases this with rfl | rfl | rfl | rfl | rfl | rfl | rfl <;> simp <;> omega
/-- 'way' -/
theorem line_way {C R : MM} {jr sp n s : Nat} {nn : Nat → Nat} (hF : RF C R jr) (hA : AL C R n s) (hP : PI C R sp jr nn) (hN : NM C R jr nn (tot nn)) (hw : wsel R 0 = 0) : ∃ C' R', f_X2_readLine C 4 sp = some C' ∧ f_X13_readWay R 118 = some R' ∧ LO C R C' R' sp jr n s := by
  have hj : 123 < jr := hF.2.2.2.2.2.2.2.2
  have hJ := hF.2.2.2.2.2.2.2.1
  obtain ⟨hs, hs2⟩ := hP.2.1
  have hw1 : wsel R 0 ≠ -1 := by rw [hw]; decide
  have hcn : gI C (sp + 8) 0 = nI (nn 0) := hP.cn.1
  have hdn : gI R jr 0 = nI (nn 0) := hP.dn.1
  have hm4 : nn 0 ≤ 4 := hP.nb.1
  unfold f_X2_readLine
  rw [hF.1, oc_x, hA.among (show 0 < 57 by decide), ob_s, hw, if_neg (show ¬ (0 : Int32) = -1 by decide), show (0 : Int32) = nI 0 from rfl]
  rcases Nat.lt_or_ge (nn 0) 4 with hm | hm
  · obtain ⟨Ca, Ra, C2, R2, a1, a2, a3, a4, a5, a6, a7, hF2, q2, r2, nc2, nr2, s2, z2, f2⟩ := front (k := 0) hF hA hs hN (tot_lt hP.nb (k := 0) (by decide) hm) (by decide) hw1
    rw [add_s hP.1 hcn (by decide) hm, ob_s, if_neg (nI_m1 (by omega)), show gR (pI C (sp + 8) 0 (nI (nn 0 + 1))) 4 0 = some 2 from hF.1, oc_x, a1, ob_s, if_neg (le7 0 (by decide)), a6, ob_s, if_pos rfl]
    have w2 : f_X0_wayAt C2 sp (nI (nn 0)) = some (some (sp + (9 + nn 0))) := wayAt_s (hP.1.congr q2.1) (n := nn 0 + 1) (by rw [q2.e _ _ (by omega), gI_pIs]) (by omega) (by omega)
    rw [w2, ob_s, oc_x]
    unfold f_X2_readWay
    rw [oc_x]
    obtain ⟨C3, v1, R2', R3, b1, b2, b3, p3, p3', s3, z3, f3⟩ := p_choice hF2 z2 (show 1 < 57 by decide)
    have hF3 := hF2.congr p3.1 p3'.1
    obtain ⟨C4, v2, v2', R4, c1, c2, p4, p4', s4, z4, f4⟩ := p_part (hF3.congr (C' := pI C3 (sp + (9 + nn 0)) 0 v1) rfl rfl) (z3.put (by omega) 0 v1) (show 2 < 57 by decide) (by decide) (l := 1) (u := 99) (l' := 1) (u' := 99) (fun _ => ⟨rfl, rfl⟩)
    have hF4 := (hF3.congr (C' := pI C3 (sp + (9 + nn 0)) 0 v1) rfl rfl).congr p4.1 p4'.1
    obtain ⟨C5, v3, v3', R5, d1, d2, p5, p5', s5, z5, f5⟩ := p_part (hF4.congr (C' := pI C4 (sp + (9 + nn 0)) 1 v2) rfl rfl) (z4.put (by omega) 1 v2) (show 3 < 57 by decide) (by decide) (l := 1) (u := 20) (l' := 1) (u' := 20) (fun _ => ⟨rfl, rfl⟩)
    have hF5 := (hF4.congr (C' := pI C4 (sp + (9 + nn 0)) 1 v2) rfl rfl).congr p5.1 p5'.1
    rw [b1, ob_s, c1, ob_s, d1, ob_s, ob_s]
    have hR : f_X13_readWay R 118 = if gI R5 118 9 = 5 then some R5 else some (pI (pI (pI (pI R5 (jr + 1) (nn 0) (wsel R2 1)) (jr + 2) (nn 0) v2') (jr + 3) (nn 0) v3') jr 0 (nI (nn 0 + 1))) := by
      unfold f_X13_readWay
      rw [hF.2.2.2.2.2.1, oc_x, hdn, show (4 : Int32) = nI 4 from rfl, begins_s hm (by decide), a2, ob_s, ob_s, a4, oc_x, a5 0, hdn, show (0 : Int32) = nI (if 0 < 2 then 0 else 2) from rfl, a7, ob_s]
      refine (kind4 (R := R2) (fun x => f_X13_readWay_J77 R2 118 x)).trans ?_
      show f_X13_readWay_J77 R2 118 (wsel R2 1) = _
      unfold f_X13_readWay_J77
      rw [ite_ob, b2, ob_s]
      unfold f_X13_readWay_J88
      rw [b3, ob_s, c2, ob_s, d2, ob_s]
      by_cases e5 : gI R5 118 9 = 5
      · rw [if_pos e5, if_pos e5]
      · rw [if_neg e5, if_neg e5]
        have J5 := hF5.2.2.2.2.2.2.2.1
        have x0 : gI R5 jr 0 = nI (nn 0) := by rw [p5'.e hj jr 0 (by omega) (by omega) (by omega), p4'.e hj jr 0 (by omega) (by omega) (by omega), p3'.e hj jr 0 (by omega) (by omega) (by omega), r2.e hj jr 0 (by omega) (by omega) (by omega)]; exact hdn
        have y1 : ∀ (M : MM) (k : Nat) (v : Int32), gI (pI M (jr + 1) k v) jr 0 = gI M jr 0 := fun M k v => gI_pIa (by omega)
        have y2 : ∀ (M : MM) (k : Nat) (v : Int32), gI (pI M (jr + 2) k v) jr 0 = gI M jr 0 := fun M k v => gI_pIa (by omega)
        have y3 : ∀ (M : MM) (k : Nat) (v : Int32), gI (pI M (jr + 3) k v) jr 0 = gI M jr 0 := fun M k v => gI_pIa (by omega)
        simp only [gR_I, hF5.2.2.2.2.2.1, oc_x, J5.k9, J5.k10, J5.k11, x0, y1, y2, y3, ix_n (show nn 0 < 2147483648 by omega), chk_m hm (show 4 < 2147483648 by decide), nI_1]
    rw [hR]
    have kc : KC C (pI C5 (sp + (9 + nn 0)) 2 v3) sp := KC.pI ((((((KC.rf C sp).pI (by omega) 0 (nI (nn 0 + 1))).tr (q2.k sp)).tr (p3.q.k sp)).pI (by omega) 0 v1).tr (p4.q.k sp) |>.pI (by omega) 1 v2 |>.tr (p5.q.k sp)) (by omega) 2 v3
    have kr : KR R R5 jr := ((r2.k.tr (p3'.q jr).k).tr (p4'.q jr).k).tr (p5'.q jr).k
    rcases z5 with z5 | z5
    · rw [if_neg z5.ne5]
      obtain ⟨g5, l5, i5, ⟨x3, x3a, x3b⟩, i5c, i5d⟩ := f5 z5
      obtain ⟨g4, l4, i4, -⟩ := f4 (z4.back (by omega) g5)
      obtain ⟨g3, l3, i3, i3n⟩ := f3 (z3.back (by omega) g4)
      obtain ⟨l2, hM⟩ := f2 g3
      have e8 := (p5.e.tr ((p4.e.tr ((p3.e.tr q2.e).pI (sp + (9 + nn 0)) 0 v1)).pI (sp + (9 + nn 0)) 1 v2)).pI (sp + (9 + nn 0)) 2 v3
      have ej : EJ R5 R jr := (((p5'.e hj).tr (p4'.e hj)).tr (p3'.e hj)).tr (r2.e hj)
      refine ⟨_, _, rfl, rfl, kc, (((kr.pI (by omega) _ _).pI (by omega) _ _).pI (by omega) _ _).pI (by omega) _ _, Or.inl ⟨s5, up nn 0, by omega, (((((z5.put (by omega) _ _).putr (by omega) _ _).putr (by omega) _ _).putr (by omega) _ _).putr (by omega) _ _), ?_, ?_⟩⟩
      · have u1 : RD (pI (pI (pI (pI R5 (jr + 1) (nn 0) (wsel R2 1)) (jr + 2) (nn 0) v2') (jr + 3) (nn 0) v3') jr 0 (nI (nn 0 + 1))) jr 1 (nn 0) = wsel R2 1 := by
          unfold RD
          rw [gI_pIa (by omega), gI_pIa (by omega), gI_pIa (by omega), gI_pIs]
        have u2 : RD (pI (pI (pI (pI R5 (jr + 1) (nn 0) (wsel R2 1)) (jr + 2) (nn 0) v2') (jr + 3) (nn 0) v3') jr 0 (nI (nn 0 + 1))) jr 2 (nn 0) = v2' := by
          unfold RD
          rw [gI_pIa (by omega), gI_pIa (by omega), gI_pIs]
        have u3 : RD (pI (pI (pI (pI R5 (jr + 1) (nn 0) (wsel R2 1)) (jr + 2) (nn 0) v2') (jr + 3) (nn 0) v3') jr 0 (nI (nn 0 + 1))) jr 3 (nn 0) = v3' := by
          unfold RD
          rw [gI_pIa (by omega), gI_pIs]
        have c0 : gI (pI C5 (sp + (9 + nn 0)) 2 v3) (sp + (9 + nn 0)) 0 = v1 := (e8 _ _ (by omega)).trans (by rw [gI_pIk (by decide), gI_pIk (by decide), gI_pIs])
        have c1 : gI (pI C5 (sp + (9 + nn 0)) 2 v3) (sp + (9 + nn 0)) 1 = v2 := (e8 _ _ (by omega)).trans (by rw [gI_pIk (by decide), gI_pIs])
        have c2 : gI (pI C5 (sp + (9 + nn 0)) 2 v3) (sp + (9 + nn 0)) 2 = v3 := (e8 _ _ (by omega)).trans (by rw [gI_pIs])
        refine hP.s0 hm kc.1 (fun a j h1 h2 h3 => (e8 a j (by omega)).trans (by rw [gI_pIa (by omega), gI_pIa (by omega), gI_pIa (by omega), gI_pIa (by omega)])) ((e8 _ _ (by omega)).trans (by rw [gI_pIa (by omega), gI_pIa (by omega), gI_pIa (by omega), gI_pIs]))
          (fun j h => (e8 _ _ (by omega)).trans (by rw [gI_pIa (by omega), gI_pIa (by omega), gI_pIa (by omega), gI_pIk h])) (fun j => (e8 _ _ (by omega)).trans (by rw [gI_pIa (by omega), gI_pIa (by omega), gI_pIa (by omega), gI_pIa (by omega)]))
          (fun c i h1 h2 h3 h4 h5 => by rw [gI_pIa (by omega), gI_pIn (by omega), gI_pIn (by omega), gI_pIn (by omega)]; exact ej _ _ (by omega) (by omega) (by omega)) (gI_pIs _ _ _ _)
          (fun j h1 h2 => by rw [gI_pIk h1, gI_pIa (by omega), gI_pIa (by omega), gI_pIa (by omega)]; exact ej _ _ (by omega) (by omega) (by omega)) ?_ ?_
        · unfold EW
          rw [u1, u2, u3, c0, c1, c2]
          exact ⟨i3, i4, i5⟩
        · unfold VW
          rw [u1, u3]
          refine ⟨sel4 i3n, x3, ?_, ?_, i5.symm.trans x3b⟩
          · rcases Nat.eq_zero_or_pos x3 with q | q
            · rw [q] at x3b
              rw [x3b] at i5c
              exact absurd (by decide) i5c
            · exact q
          · rw [x3b] at i5d
            exact (nI_leI (b := 20) (by omega) (by decide)).mp i5d
      · rw [tot_up (by decide)]
        exact (((((((hM.go hj p3 p3').put (by omega) _ _).go hj p4 p4').put (by omega) _ _).go hj p5 p5').put (by omega) _ _).putr (by omega) (by omega) _).putr (by omega) (by omega) _ |>.putr (by omega) (by omega) _ |>.putr (by omega) (by omega) _
    · rw [if_pos z5.1]
      exact ⟨_, _, rfl, rfl, kc, kr, Or.inr (z5.put (by omega) _ _)⟩
  · have hm2 : nn 0 = 4 := by omega
    obtain ⟨C1, R1, a1, a2, a3, a4, a5⟩ := p_fail hF (Or.inl hA) 5 (by decide)
    have hF1 := hF.congr a3.1 a4.1
    rw [add_n hP.1 hcn (by omega) (by decide) hm, ob_s, if_pos rfl, if_pos (show nI 0 < (7 : Int32) by decide), a1, ob_s]
    exact ⟨C1, R1, rfl, way_many hF.2.2.2.2.2.1 (by rw [hdn, hm2]; rfl) a2 a5.1 hF1.2.2.2.2.2.1 hF1.2.2.2.2.2.2.2.1 (hN.nr.go hj a4), a3.q.k sp, (a4.q jr).k, Or.inr a5⟩

