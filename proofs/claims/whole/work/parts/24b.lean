/-! WHAT A CALL LEAVES ALONE -/
theorem IS.congr {M M' : MM} {b : Nat} (e : M'.2.2 = M.2.2) (h : IS M b) : IS M' b := by
  unfold IS gR at *
  rw [e]
  exact h
theorem JS.congr {M M' : MM} {j : Nat} (e : M'.2.2 = M.2.2) (h : JS M j) : JS M' j := by
  unfold JS gR at *
  rw [e]
  exact h
theorem ST.congr {M M' : MM} {jo sc ic sp : Nat} (e : M'.2.2 = M.2.2) (h : ST M jo sc ic sp) : ST M' jo sc ic sp := by
  unfold ST IS gR at *
  rw [e]
  exact h
theorem RT.congr {M M' : MM} (e : M'.2.2 = M.2.2) (h : RT M) : RT M' := by
  unfold RT gR at *
  rw [e]
  exact h
theorem CE.congr {M M' : MM} {b : Nat} {D : DT} {n : Nat → Nat} (e : ∀ a k, 14 ≤ a → gI M' a k = gI M a k) (hb : 14 ≤ b) (h : CE M b D n) : CE M' b D n := by
  unfold CE EW ER ES ET EY EL EX at *
  simp (disch := omega) only [e]
  exact h
theorem CN.congr {M M' : MM} {b : Nat} {n : Nat → Nat} (e : ∀ a k, 14 ≤ a → gI M' a k = gI M a k) (hb : 14 ≤ b) (h : CN M b n) : CN M' b n := by
  unfold CN at *
  simp (disch := omega) only [e]
  exact h
theorem EF.congr {M M' : MM} {b : Nat} {D : DT} (e : ∀ a k, 14 ≤ a → gI M' a k = gI M a k) (hb : 14 ≤ b) (h : EF M b D) : EF M' b D := by
  unfold EF at *
  simp (disch := omega) only [e]
  exact h
theorem CI.congr {M M' : MM} {b : Nat} {D : DT} {n : Nat → Nat} (e : ∀ a k, 14 ≤ a → gI M' a k = gI M a k) (eR : M'.2.2 = M.2.2) (hb : 14 ≤ b) (h : CI M b D n) : CI M' b D n :=
  ⟨h.is.congr eR, h.nb, h.vd, h.ce.congr e hb, h.cn.congr e hb, h.ef.congr e hb, h.dn, h.n0⟩
theorem TR.congr {M M' : MM} {b : Nat} {D : DT} {n : Nat → Nat} (e : ∀ a k, 14 ≤ a → gI M' a k = gI M a k) (hb : 14 ≤ b) (h : TR M b D n) : TR M' b D n := by
  unfold TR at *
  simp (disch := omega) only [e]
  exact h
theorem CB.congr {M M' : MM} {b : Nat} (e : ∀ a k, 14 ≤ a → gI M' a k = gI M a k) (eR : M'.2.2 = M.2.2) (hb : 14 ≤ b) (h : CB M b) : CB M' b :=
  ⟨h.1.congr eR, h.2.1.congr e hb, by rw [e b 8 hb]; exact h.2.2⟩
theorem RI.congr {M M' : MM} {j : Nat} {D : DT} (e : ∀ a k, 124 ≤ a → gI M' a k = gI M a k) (eR : M'.2.2 = M.2.2) (h : RI M j D) : RI M' j D :=
  ⟨by unfold gR; rw [eR]; exact h.1, h.s.congr eR, h.g, fun c i hc => by rw [e (j + c) i (by have := h.g; omega)]; exact h.d c i hc⟩
theorem ic14 {M : MM} {jo sc ic sp : Nat} (h : ST M jo sc ic sp) : 14 ≤ ic ∧ 14 ≤ sp ∧ (jo = 12 ∨ jo = 13) ∧ (sc = 12 ∨ sc = 13) ∧ jo ≠ sc := by
  have h1 := h.icg
  have h2 := h.joc
  omega
/-- trouble alone is written -/
theorem TOP.done {C R : MM} (h : TOP C R) (tr : Int32) (h4 : tr ≠ 4) : TOP (pI C 1 7 tr) (rM R tr) := by
  obtain ⟨jo, sc, ic, sp, hS, hR, hQ, hP, hV, hD, hI⟩ := h
  have hc := ic14 hS
  have e : ∀ a k, 2 ≤ a → gI (pI C 1 7 tr) a k = gI C a k := fun a k h => gI_pIa (by omega)
  have r : ∀ a k, a ≠ 118 ∨ 3 ≤ k → gI (rM R tr) a k = gI R a k := fun a k h => by
    unfold rM
    rw [gI_pIn (by omega), gI_pIn (by omega), gI_pIn (by omega)]
  refine ⟨jo, sc, ic, sp, hS.congr rfl, hR.congr rfl, ⟨?_, ?_, ?_⟩, ?_, ?_, ?_, ?_⟩
  · show gI (pI C 1 7 tr) 1 7 = gI (rM R tr) 118 1
    unfold rM
    rw [gI_pIs, gI_pIk (by decide), gI_pIs]
  · rw [e 4 5 (by decide), r 118 13 (by decide)]; exact hQ.2.1
  · rw [gI_pIs, if_neg h4]
    exact gI_pIs _ _ _ _
  · unfold TP at *
    simp (disch := omega) only [e, r]
    exact hP
  · unfold SR at *
    simp (disch := omega) only [e, r]
    exact hV
  · unfold SD at *
    simp (disch := omega) only [e, r]
    exact hD
  · unfold IJ JN JB at *
    rcases hI with ⟨h1, h2, h3⟩ | ⟨j, D, n, h1, h2, h3, h5⟩
    · refine Or.inl ⟨h1.congr (fun a k h => e a k (by omega)) rfl hc.1, h2, ?_⟩
      simp (disch := omega) only [e, r]
      exact h3
    · refine Or.inr ⟨j, D, n, h1.congr (fun a k h => e a k (by omega)) rfl hc.1, h2.congr (fun a k h => r a k (by omega)) rfl, h3.congr (fun a k h => e a k (by omega)) hc.1, ?_⟩
      simp (disch := omega) only [e, r]
      exact h5
/-- a call that leaves all but trouble -/
theorem QQ.top {C R : MM} {x y : Option (Int32 × MM)} (h : QQ C R x y) (hT : TOP C R) : ∃ r C' R', x = some (r, C') ∧ y = some (r, R') ∧ TOP C' R' := by
  obtain ⟨r, tr, h4, hx, hy⟩ := h
  exact ⟨r, _, _, hx, hy, hT.done tr h4⟩
