/-! THE NAMES -/
def fnd (g : Nat → Int64) (v : Int64) : Nat → Nat → Int32
  | 0, _ => -1
  | d + 1, i => if g i = v then nI i else fnd g v d (i + 1)
theorem fnd_or (g : Nat → Int64) (v : Int64) : ∀ d i, fnd g v d i = -1 ∨ ∃ k, k < i + d ∧ fnd g v d i = nI k := by
  intro d
  induction d with
  | zero => intro i; exact Or.inl rfl
  | succ d ih =>
    intro i
    unfold fnd
    by_cases e : g i = v
    · rw [if_pos e]; exact Or.inr ⟨i, by omega, rfl⟩
    · rw [if_neg e]
      rcases ih (i + 1) with h | ⟨k, h1, h2⟩
      · exact Or.inl h
      · exact Or.inr ⟨k, by omega, h2⟩
theorem fnd_congr {g g' : Nat → Int64} {v v' : Int64} (hv : v = v') : ∀ d i, (∀ k, k < i + d → g k = g' k) → fnd g v d i = fnd g' v' d i := by
  subst hv
  intro d
  induction d with
  | zero => intro i _; rfl
  | succ d ih =>
    intro i h
    unfold fnd
    rw [h i (by omega), ih (i + 1) (fun k hk => h k (by omega))]
theorem find_cl {C : MM} {t : Nat} (ht : t ≤ 35) (h0 : gR C 4 0 = some 2) (h1 : gR C 4 1 = some 5) (h4 : gI C 4 4 = nI t) : ∀ d i f, i + d = t → d < f → f_X2_findName_L2 f C 4 (nI i) = some (fnd (gL C 5) (gL C 2 6) d i) := by
  intro d
  induction d with
  | zero =>
    intro i f hi hf
    obtain ⟨f, rfl⟩ := suc hf
    rw [f_X2_findName_L2, h4, if_pos (nI_le (by omega) (by omega))]
    rfl
  | succ d ih =>
    intro i f hi hf
    obtain ⟨f, rfl⟩ := suc hf
    rw [f_X2_findName_L2, h4, if_neg (nI_ge (show i < t by omega) (by omega)), h1, h0]
    simp only [oc_x]
    rw [if_neg (show ¬ (35 : Int32) ≤ nI i from nI_ge (b := 35) (by omega) (by decide)), chk_n (show i < 35 by omega) (by decide), ix_n (by omega), nI_1 i, ih (i + 1) f (by omega) (by omega), show fnd (gL C 5) (gL C 2 6) (d + 1) i = if gL C 5 i = gL C 2 6 then nI i else fnd (gL C 5) (gL C 2 6) d (i + 1) from rfl]
    by_cases e : gL C 5 i = gL C 2 6
    · rw [if_pos ((lg_cmp_eq _ _).mpr e), if_pos e]
    · rw [if_neg (fun z => e ((lg_cmp_eq _ _).mp z)), if_neg e]
theorem find_c {C : MM} {t : Nat} (ht : t ≤ 35) (h0 : gR C 4 0 = some 2) (h1 : gR C 4 1 = some 5) (h4 : gI C 4 4 = nI t) : f_X2_findName C 4 = some (fnd (gL C 5) (gL C 2 6) t 0) := by
  unfold f_X2_findName
  exact find_cl ht h0 h1 h4 t 0 FU (by omega) (fu (by omega))
theorem find_rl {R : MM} {t jr : Nat} (ht : t ≤ 35) (hJ : JS R jr) (h8 : gI R jr 8 = nI t) (v : Int64) : ∀ d i f, i + d = t → d < f → f_X12_find_L2 f R jr v (nI i) = some (fnd (gL R (jr + 29)) v d i) := by
  intro d
  induction d with
  | zero =>
    intro i f hi hf
    obtain ⟨f, rfl⟩ := suc hf
    rw [f_X12_find_L2, h8, if_pos (nI_le (by omega) (by omega))]
    rfl
  | succ d ih =>
    intro i f hi hf
    obtain ⟨f, rfl⟩ := suc hf
    rw [f_X12_find_L2, h8, if_neg (nI_ge (show i < t by omega) (by omega)), hJ.k45, oc_x, chk_n (show i < 35 by omega) (by decide), ix_n (by omega), nI_1 i, ih (i + 1) f (by omega) (by omega), show fnd (gL R (jr + 29)) v (d + 1) i = if gL R (jr + 29) i = v then nI i else fnd (gL R (jr + 29)) v d (i + 1) from rfl]
    by_cases e : gL R (jr + 29) i = v
    · rw [if_pos ((lg_cmp_eq _ _).mpr e), if_pos e]
    · rw [if_neg (fun z => e ((lg_cmp_eq _ _).mp z)), if_neg e]
theorem find_r {R : MM} {t jr : Nat} (ht : t ≤ 35) (hJ : JS R jr) (h8 : gI R jr 8 = nI t) (v : Int64) : f_X12_find R jr v = some (fnd (gL R (jr + 29)) v t 0) := by
  unfold f_X12_find
  exact find_rl ht hJ h8 v t 0 FU (by omega) (fu (by omega))
theorem entry_c {M : MM} {a k N : Nat} (h : k < N) (hN : N < 2147483648) : f_X11_entry M a N (nI k) = some (gI M a k) := by
  unfold f_X11_entry
  rw [if_neg (nneg (by omega)), if_neg (nI_ge h (by omega)), chk_n h hN, ix_n (by omega)]
theorem entry_t (M : MM) (a N : Nat) (x : Int32) (hN : N < 2147483648) : ∃ v, f_X11_entry M a N x = some v := by
  unfold f_X11_entry
  by_cases h1 : x < 0
  · exact ⟨0, by rw [if_pos h1]⟩
  · by_cases h2 : nI N ≤ x
    · exact ⟨0, by rw [if_neg h1, if_pos h2]⟩
    · obtain ⟨k, hk, rfl⟩ := nI_of2 (M := nI N) (n := N) (x := x) (nI_toInt hN) h1 (Int32.le_of_lt (i32_lt h2))
      have hk2 : k < N := by
        rcases Nat.lt_or_ge k N with q | q
        · exact q
        · exact absurd (nI_le q (by omega)) h2
      exact ⟨gI M a k, by rw [if_neg h1, if_neg h2, chk_n hk2 hN, ix_n (by omega)]⟩

theorem isName_r (R : MM) : f_X13_isName R 118 = some (if gI R 118 9 = 2 then (if wsel R 29 = -1 then 1 else 0) else 0) := by
  unfold f_X13_isName
  by_cases h : gI R 118 9 = 2
  · rw [if_pos h, if_pos h]
    unfold wsel
    rw [if_pos h, W29]
    simp only [isWord_r R (show 30 < 57 by decide), isWord_r R (show 31 < 57 by decide), isWord_r R (show 32 < 57 by decide), isWord_r R (show 33 < 57 by decide), isWord_r R (show 34 < 57 by decide), isWord_r R (show 35 < 57 by decide), isWord_r R (show 36 < 57 by decide), isWord_r R (show 37 < 57 by decide), isWord_r R (show 38 < 57 by decide), isWord_r R (show 39 < 57 by decide), isWord_r R (show 40 < 57 by decide), isWord_r R (show 41 < 57 by decide), isWord_r R (show 23 < 57 by decide), ob_s, if_pos h, b01, idx]
    by_cases e30 : cd 30 = gL R 118 15
    · simp only [if_pos e30]; rfl
    simp only [if_neg e30]
    by_cases e31 : cd 31 = gL R 118 15
    · simp only [if_pos e31]; rfl
    simp only [if_neg e31]
    by_cases e32 : cd 32 = gL R 118 15
    · simp only [if_pos e32]; rfl
    simp only [if_neg e32]
    by_cases e33 : cd 33 = gL R 118 15
    · simp only [if_pos e33]; rfl
    simp only [if_neg e33]
    by_cases e34 : cd 34 = gL R 118 15
    · simp only [if_pos e34]; rfl
    simp only [if_neg e34]
    by_cases e35 : cd 35 = gL R 118 15
    · simp only [if_pos e35]; rfl
    simp only [if_neg e35]
    by_cases e36 : cd 36 = gL R 118 15
    · simp only [if_pos e36]; rfl
    simp only [if_neg e36]
    by_cases e37 : cd 37 = gL R 118 15
    · simp only [if_pos e37]; rfl
    simp only [if_neg e37]
    by_cases e38 : cd 38 = gL R 118 15
    · simp only [if_pos e38]; rfl
    simp only [if_neg e38]
    by_cases e39 : cd 39 = gL R 118 15
    · simp only [if_pos e39]; rfl
    simp only [if_neg e39]
    by_cases e40 : cd 40 = gL R 118 15
    · simp only [if_pos e40]; rfl
    simp only [if_neg e40]
    by_cases e41 : cd 41 = gL R 118 15
    · simp only [if_pos e41]; rfl
    simp only [if_neg e41]
    by_cases e23 : cd 23 = gL R 118 15
    · simp only [if_pos e23]; rfl
    simp only [if_neg e23]
    rfl
  · rw [if_neg h, if_neg h]
theorem isName_o {R : MM} (h : gI R 118 9 = 5) : f_X13_isName R 118 = some 0 := by
  rw [isName_r, if_neg (by rw [h]; decide)]
theorem wrong_o {R : MM} (h : gI R 118 9 = 5) (x : Int32) : f_X13_wrong R 118 x = some R := by
  unfold f_X13_wrong
  rw [if_pos h]
theorem goes_o {R : MM} (h : gI R 118 9 = 5) : f_X13_goesOn R 118 = some R := by
  unfold f_X13_goesOn
  rw [if_pos h]
theorem word_o {R : MM} (h : gI R 118 9 = 5) {t : Nat} (ht : t < 57) : f_X13_isWord R 118 t = some 0 := by
  rw [isWord_r R ht, if_neg (by rw [h]; decide)]
theorem needs_o {R : MM} (h : gI R 118 9 = 5) {t : Nat} (ht : t < 57) : f_X13_needs R 118 t = some R := by
  unfold f_X13_needs
  rw [word_o h ht, ob_s, if_pos rfl, wrong_o h, ob_s, goes_o h, ob_s]
theorem rwhole_o {R : MM} (h : gI R 118 9 = 5) (l u : Int32) : f_X13_readWhole R 118 l u = some (gI R 118 12, R) := by
  unfold f_X13_readWhole
  rw [if_neg (show ¬ gI R 118 9 = 3 by rw [h]; decide), wrong_o h, ob_s, goes_o h, ob_s]
theorem rpart_o {R : MM} (h : gI R 118 9 = 5) {t : Nat} (ht : t < 57) (l u : Int32) : f_X13_readPart R 118 t l u = some (gI R 118 12, R) := by
  unfold f_X13_readPart
  rw [needs_o h ht, ob_s, rwhole_o h, ob_s]
theorem begins_o {R : MM} (h : gI R 118 9 = 5) (x y : Int32) : f_X13_begins R 118 x y = some R := by
  unfold f_X13_begins
  rw [wrong_o h, ob_s, goes_o h, ob_s]
  split <;> rfl
theorem isSlope_o {R : MM} (h : gI R 118 9 = 5) : f_X13_isSlope R 118 = some 0 := by
  unfold f_X13_isSlope
  rw [word_o h (show 40 < 57 by decide), ob_s, if_pos rfl, word_o h (show 41 < 57 by decide), ob_s, if_pos rfl]
theorem rslope_o {R : MM} (h : gI R 118 9 = 5) : f_X13_readSlope R 118 = some (gI R 118 12, R) := by
  unfold f_X13_readSlope
  rw [word_o h (show 41 < 57 by decide), ob_s, isSlope_o h, ob_s, if_pos rfl, wrong_o h, ob_s, goes_o h, ob_s, rwhole_o h, ob_s, if_pos rfl]
theorem eats_o {R : MM} (h : gI R 118 9 = 5) (x : Int32) : f_X13_eatsSign R 118 x = some (0, R) := by
  unfold f_X13_eatsSign
  rw [if_neg (show ¬ gI R 118 9 = 4 by rw [h]; decide)]
theorem eatsw_o {R : MM} (h : gI R 118 9 = 5) {t : Nat} (ht : t < 57) : f_X13_eatsWord R 118 t = some (0, R) := by
  unfold f_X13_eatsWord
  rw [word_o h ht, ob_s, if_pos rfl]
def NC (C : MM) : Prop := ∃ t, t ≤ 35 ∧ gI C 4 4 = nI t
def NR (R : MM) (jr : Nat) : Prop := ∃ t, t ≤ 35 ∧ gI R jr 8 = nI t
theorem known_o {R : MM} {jr : Nat} (h : gI R 118 9 = 5) (h4 : gR R 118 4 = some jr) (hJ : JS R jr) (hN : NR R jr) (x : Int32) : f_X13_known R 118 x = some (0, R) := by
  obtain ⟨t, ht, h8⟩ := hN
  unfold f_X13_known
  rw [isName_o h, ob_s, if_pos rfl, wrong_o h, ob_s, h4]
  simp only [oc_x]
  rw [find_r ht hJ h8, ob_s, wrong_o h]
  simp only [ob_s, if_pos h]
  rcases fnd_or (gL R (jr + 29)) (gL R 118 15) t 0 with e | ⟨k, k1, k2⟩
  · rw [if_pos e]
  · rw [k2, if_neg (m1_nI (by omega)), hJ.k46, oc_x, chk_n (show k < 35 by omega) (by decide)]
    split <;> rfl
theorem rknown_o {R : MM} {jr : Nat} (h : gI R 118 9 = 5) (h4 : gR R 118 4 = some jr) (hJ : JS R jr) (hN : NR R jr) (x : Int32) : f_X13_readKnown R 118 x = some (0, R) := by
  unfold f_X13_readKnown
  rw [known_o h h4 hJ hN, ob_s, goes_o h, ob_s]
theorem fresh_o {R : MM} {jr : Nat} (h : gI R 118 9 = 5) (h4 : gR R 118 4 = some jr) (hJ : JS R jr) (hN : NR R jr) (x y : Int32) : f_X13_readFresh R 118 x y = some R := by
  obtain ⟨t, ht, h8⟩ := hN
  unfold f_X13_readFresh
  rw [isName_o h, ob_s, if_pos rfl, wrong_o h, ob_s, h4]
  simp only [oc_x]
  rw [find_r ht hJ h8, ob_s, wrong_o h]
  simp only [ob_s, if_pos h]
  split <;> rfl
theorem known_stop {R R1 : MM} (h1 : f_X13_isName R 118 = some 0) (h2 : f_X13_wrong R 118 1 = some R1) (h3 : gI R1 118 9 = 5) (x : Int32) : f_X13_known R 118 x = f_X13_known R1 118 x := by
  unfold f_X13_known
  rw [h1, isName_o h3, ob_s, ob_s, if_pos rfl, if_pos rfl, h2, wrong_o h3]
theorem fresh_stop {R R1 : MM} (h1 : f_X13_isName R 118 = some 0) (h2 : f_X13_wrong R 118 1 = some R1) (h3 : gI R1 118 9 = 5) (x y : Int32) : f_X13_readFresh R 118 x y = f_X13_readFresh R1 118 x y := by
  unfold f_X13_readFresh
  rw [h1, isName_o h3, ob_s, ob_s, if_pos rfl, if_pos rfl, h2, wrong_o h3]
/-- the names told so far -/
def NM (C R : MM) (jr : Nat) (n : Nat → Nat) (t : Nat) : Prop := t ≤ 35 ∧ gI C 4 4 = nI t ∧ gI R jr 8 = nI t ∧ ∀ i, i < t → gL C 5 i = gL R (jr + 29) i ∧ gI C 7 i = gI R (jr + 31) i ∧ ∃ c m, c < 7 ∧ gI C 6 i = nI c ∧ gI R (jr + 30) i = nI (if c < 2 then c else 2) ∧ gI C 7 i = nI m ∧ (c < 2 → m < n c)
theorem NM.nc {C R : MM} {jr t : Nat} {n : Nat → Nat} (h : NM C R jr n t) : NC C := ⟨t, h.1, h.2.1⟩
theorem NM.nr {C R : MM} {jr t : Nat} {n : Nat → Nat} (h : NM C R jr n t) : NR R jr := ⟨t, h.1, h.2.2.1⟩
theorem NM.congr {C R C' R' : MM} {jr t : Nat} {n : Nat → Nat} (h : NM C R jr n t) (h1 : gI C' 4 4 = gI C 4 4) (h2 : ∀ k, gL C' 5 k = gL C 5 k) (h3 : ∀ k, gI C' 6 k = gI C 6 k) (h4 : ∀ k, gI C' 7 k = gI C 7 k) (h5 : gI R' jr 8 = gI R jr 8) (h6 : ∀ k, gL R' (jr + 29) k = gL R (jr + 29) k) (h7 : ∀ k, gI R' (jr + 30) k = gI R (jr + 30) k) (h8 : ∀ k, gI R' (jr + 31) k = gI R (jr + 31) k) : NM C' R' jr n t := by
  obtain ⟨a, b, c, d⟩ := h
  refine ⟨a, h1.trans b, h5.trans c, fun i hi => ?_⟩
  rw [h2, h3, h4, h6, h7, h8]
  exact d i hi
theorem NM.go {C R C' R' : MM} {jr t : Nat} {n : Nat → Nat} (h : NM C R jr n t) (hj : 123 < jr) (hc : PFc C C') (hr : PFr R R') : NM C' R' jr n t :=
  h.congr (hc.2.1 4 4 (by omega) (by omega)) (fun k => hc.2.2 5 k (by omega)) (fun k => hc.2.1 6 k (by omega) (by omega)) (fun k => hc.2.1 7 k (by omega) (by omega)) (hr.2.1 jr 8 (by omega)) (fun k => hr.2.2 (jr + 29) k (by omega)) (fun k => hr.2.1 (jr + 30) k (by omega)) (fun k => hr.2.1 (jr + 31) k (by omega))
theorem NM.mono {C R : MM} {jr t : Nat} {n n' : Nat → Nat} (h : NM C R jr n t) (hn : ∀ c, c < 2 → n c ≤ n' c) : NM C R jr n' t := by
  obtain ⟨a, b, c, d⟩ := h
  refine ⟨a, b, c, fun i hi => ?_⟩
  obtain ⟨e1, e2, c, m, e3, e4, e5, e6, e7⟩ := d i hi
  exact ⟨e1, e2, c, m, e3, e4, e5, e6, fun z => Nat.lt_of_lt_of_le (e7 z) (hn c z)⟩
theorem NC.go {C C' : MM} (h : NC C) (hc : PFc C C') : NC C' := by
  obtain ⟨t, a, b⟩ := h
  exact ⟨t, a, (hc.2.1 4 4 (by omega) (by omega)).trans b⟩
theorem NR.go {R R' : MM} {jr : Nat} (h : NR R jr) (hj : 123 < jr) (hr : PFr R R') : NR R' jr := by
  obtain ⟨t, a, b⟩ := h
  exact ⟨t, a, (hr.2.1 jr 8 (by omega)).trans b⟩
theorem isWord_c (C : MM) : f_X7_isWord C 2 = some (if gI C 2 4 = 1 then 1 else 0) := by
  unfold f_X7_isWord
  split <;> rfl
/-- a name told before -/
theorem p_told {C R : MM} {jr n s t c : Nat} {nn : Nat → Nat} (hF : RF C R jr) (h : S2 C R n s) (hC : NC C) (hR : NR R jr) (hN : AL C R n s → NM C R jr nn t) (hc : c < 2) : ∃ C' v v' R', f_X2_toldName C 4 (nI c) = some (v, C') ∧ f_X13_known R 118 (nI c) = some (v', R') ∧ PFc C C' ∧ PFr R R' ∧
    ((AL C R n s ∧ C' = C ∧ R' = R ∧ gI C 2 4 = 1 ∧ v' = v ∧ ∃ m, m < nn c ∧ v = nI m) ∨ (DE C' R' n ∧ v' = 0)) := by
  rcases h with h | h
  · have hT := hN h
    obtain ⟨t1, t2, t3, t4⟩ := hT
    have hT := hN h
    unfold f_X2_toldName
    rw [hF.1, hF.2.2.1, hF.2.2.2.1]
    simp only [oc_x]
    rw [isWord_c, ob_s, b01, find_c t1 hF.1 hF.2.1 t2, ob_s]
    have stop : ∃ C1 R1, f_X2_fail C 4 1 = some C1 ∧ f_X13_wrong R 118 1 = some R1 ∧ PFc C C1 ∧ PFr R R1 ∧ DE C1 R1 n ∧ (f_X13_isName R 118 = some 0 → f_X13_known R 118 (nI c) = some (0, R1)) := by
      obtain ⟨C1, R1, a1, a2, a3, a4, a5⟩ := p_fail hF (Or.inl h) 1 (by decide)
      have hF1 : RF C1 R1 jr := hF.congr a3.1 a4.1
      refine ⟨C1, R1, a1, a2, a3, a4, a5, fun z => ?_⟩
      rw [known_stop z a2 a5.1, known_o a5.1 hF1.2.2.2.2.2.1 hF1.2.2.2.2.2.2.2.1 (hT.nr.go hF.2.2.2.2.2.2.2.2 a4)]
    by_cases e1 : gI C 2 4 = 1
    · rw [if_pos e1, h.among (show 29 < 57 by decide), ob_s]
      by_cases e2 : wsel R 29 = -1
      · rw [if_pos e2]
        have hn1 : f_X13_isName R 118 = some 1 := by rw [isName_r, if_pos (h.word.mp e1), if_pos e2]
        have hfe : fnd (gL C 5) (gL C 2 6) t 0 = fnd (gL R (jr + 29)) (gL R 118 15) t 0 := fnd_congr (h.wordv e1) t 0 (fun k hk => (t4 k (by omega)).1)
        have hk : f_X13_known R 118 (nI c) = f_X13_known R 118 (nI c) := rfl
        conv at hk => rhs; unfold f_X13_known
        rw [hn1, ob_s, if_neg (by decide), hF.2.2.2.2.2.1] at hk
        simp only [oc_x] at hk
        rw [find_r t1 hF.2.2.2.2.2.2.2.1 t3, ob_s, ← hfe] at hk
        obtain ⟨C2, R2, a1, a2, a3, a4, a5⟩ := p_fail hF (Or.inl h) 2 (by decide)
        rw [a2] at hk
        rw [a1]
        simp only [ob_s, if_pos a5.1] at hk ⊢
        rcases fnd_or (gL C 5) (gL C 2 6) t 0 with e | ⟨k, k1, k2⟩
        · rw [if_pos e] at hk ⊢
          exact ⟨C2, -1, 0, R2, rfl, hk, a3, a4, Or.inr ⟨a5, rfl⟩⟩
        · have k3 : k < t := by omega
          obtain ⟨d1, d2, c', m, d3, d4, d5, d6, d7⟩ := t4 k k3
          rw [k2, if_neg (m1_nI (by omega)), hF.2.2.2.2.2.2.2.1.k46, hF.2.2.2.2.2.2.2.1.k47, oc_x, oc_x, chk_n (show k < 35 by omega) (by decide), chk_n (show k < 35 by omega) (by decide), ix_n (by omega), d5, if_neg h.ne5] at hk
          rw [k2, if_neg (m1_nI (by omega)), entry_c (show k < 35 by omega) (by decide), ob_s, entry_c (show k < 35 by omega) (by decide), ob_s, d4]
          by_cases q : c' = c
          · subst q
            rw [if_pos hc, if_pos rfl] at hk
            rw [if_pos rfl]
            exact ⟨C, gI C 7 k, gI R (jr + 31) k, R, rfl, hk, PFc.rf C, PFr.rf R, Or.inl ⟨h, rfl, rfl, e1, d2.symm, m, d7 hc, d6⟩⟩
          · have q2 : ¬ nI (if c' < 2 then c' else 2) = nI c := by
              intro z
              have := (nI_eq (by split <;> omega) (by omega)).mp z
              split at this <;> omega
            rw [if_neg q2] at hk
            rw [if_neg (fun z => q ((nI_eq (by omega) (by omega)).mp z))]
            exact ⟨C2, -1, 0, R2, rfl, hk, a3, a4, Or.inr ⟨a5, rfl⟩⟩
      · obtain ⟨C1, R1, a1, a2, a3, a4, a5, a6⟩ := stop
        rw [if_neg e2, a1, ob_s]
        exact ⟨C1, -1, 0, R1, rfl, a6 (by rw [isName_r, if_pos (h.word.mp e1), if_neg e2]), a3, a4, Or.inr ⟨a5, rfl⟩⟩
    · obtain ⟨C1, R1, a1, a2, a3, a4, a5, a6⟩ := stop
      rw [if_neg e1, a1, ob_s]
      exact ⟨C1, -1, 0, R1, rfl, a6 (by rw [isName_r, if_neg (fun z => e1 (h.word.mpr z))]), a3, a4, Or.inr ⟨a5, rfl⟩⟩
  · obtain ⟨t, t1, t2⟩ := hC
    unfold f_X2_toldName
    rw [hF.1, hF.2.2.1, hF.2.2.2.1]
    simp only [oc_x]
    rw [isWord_c, ob_s, b01, find_c t1 hF.1 hF.2.1 t2, ob_s]
    have hk := known_o h.1 hF.2.2.2.2.2.1 hF.2.2.2.2.2.2.2.1 hR (nI c)
    have key : ∃ v, (if gI C 2 4 = 1 then (ob (f_X7_among C 2 29) (fun z6 => if z6 = (-1) then (if fnd (gL C 5) (gL C 2 6) t 0 = (-1) then (ob (f_X2_fail C 4 2) (fun z10 => some ((-1), z10))) else (ob (f_X11_entry C 6 35 (fnd (gL C 5) (gL C 2 6) t 0)) (fun z12 => if z12 = nI c then (ob (f_X11_entry C 7 35 (fnd (gL C 5) (gL C 2 6) t 0)) (fun z15 => some (z15, C))) else (ob (f_X2_fail C 4 2) (fun z16 => some ((-1), z16)))))) else (ob (f_X2_fail C 4 1) (fun z17 => some ((-1), z17))))) else (ob (f_X2_fail C 4 1) (fun z4 => some ((-1 : Int32), z4)))) = some (v, C) := by
      rw [de_fail h, de_fail h, among_c C (show 29 < 57 by decide)]
      simp only [ob_s]
      obtain ⟨v1, q1⟩ := entry_t C 6 35 (fnd (gL C 5) (gL C 2 6) t 0) (by decide)
      obtain ⟨v2, q2⟩ := entry_t C 7 35 (fnd (gL C 5) (gL C 2 6) t 0) (by decide)
      rw [q1, q2]
      simp only [ob_s]
      repeat' split
      all_goals exact ⟨_, rfl⟩
    obtain ⟨v, hv⟩ := key
    exact ⟨C, v, 0, R, hv, hk, PFc.rf C, PFr.rf R, Or.inr ⟨h, rfl⟩⟩

