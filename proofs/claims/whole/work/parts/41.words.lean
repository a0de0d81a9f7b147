/-! THE WORDS OF THE TEXTS -/
def wordsL : List Int32 → Int64 → List Int64
  | [], w => [w]
  | b :: r, w => if b = 32 then w :: wordsL r 0 else wordsL r (w * 32 + b.toInt64 - 96)
def idx : List Int64 → Int32 → Int64 → Int32
  | [], _, _ => -1
  | w :: r, p, v => if w = v then p else idx r (p + 1) v
def wcode : List Int32 → Int64 → Int64
  | [], a => a
  | b :: r, a => wcode r (32 * a + ((b - 97) + 1).toInt64)
def txt (t : Nat) : List Int32 := bytS.getD t []
def cd (t : Nat) : Int64 := wcode (txt t) 0
theorem lens : ∀ t, t < 57 → (nI (lenS.getD t 0)) >>> ((0 : Int32) &&& 31) = nI (txt t).length ∧ (txt t).length < 80 ∧ lenS.getD t 0 = (txt t).length := by decide +kernel
theorem chars : ∀ t, t < 57 → ∀ k, k < 80 → k < (txt t).length → ((((txt t).getD k 0) &&& 255).toUInt32 % 65536).toInt32 = (txt t).getD k 0 := by decide +kernel
theorem length_t (M : MM) {t : Nat} (ht : t < 57) : f_J0_length_8abf5 M t = some (nI (txt t).length) := by
  unfold f_J0_length_8abf5 f_J0_coder_7d493
  rw [ob_s, (lens t ht).1]
theorem charAt_t (M : MM) {t k : Nat} (ht : t < 57) (hk : k < (txt t).length) : f_J0_charAt_5068e M t (nI k) = some ((txt t).getD k 0) := by
  obtain ⟨-, l2, l3⟩ := lens t ht
  have e : ((((bytS.getD t []).getD k 0) &&& 255).toUInt32 % 65536).toInt32 = (txt t).getD k 0 := chars t ht k (by omega) hk
  unfold f_J0_charAt_5068e f_J0_isLatin1_aae02 f_J1_charAt_3b067 f_J0_checkIndex_df160 f_J3_checkIndex_8e157
  rw [ob_s, if_neg (show ¬ (1 : Int32) = 0 by decide), if_neg (nneg (show k < 2147483648 by omega)), l3, if_pos (nI_lt hk (by omega)), ob_s, ob_s, chk_n hk (by omega), ix_n (by omega), e, ob_s]
theorem drop_k {l : List Int32} {k : Nat} (hk : k < l.length) : l.drop k = l.getD k 0 :: l.drop (k + 1) := by
  rw [List.drop_eq_getElem_cons hk]
  congr 1
  simp [List.getD, hk]
theorem among_l {M : MM} {t : Nat} (ht : t < 57) : ∀ (d k : Nat) (p : Int32) (w : Int64) (f : Nat), k + d = (txt t).length → d < f → f_X7_among_L17 f M 2 t p w (nI k) = some (idx (wordsL ((txt t).drop k) w) p (gL M 2 6)) := by
  have l2 := (lens t ht).2.1
  intro d
  induction d with
  | zero =>
    intro k p w f hk hf
    obtain ⟨f, rfl⟩ := suc hf
    rw [f_X7_among_L17, length_t M ht, ob_s, if_pos (nI_le (by omega) (by omega)), List.drop_eq_nil_of_le (by omega), wordsL, idx, idx]
    by_cases h : w = gL M 2 6
    · rw [if_pos ((lg_cmp_eq _ _).mpr h), if_pos h]
    · rw [if_neg (fun z => h ((lg_cmp_eq _ _).mp z)), if_neg h]
  | succ d ih =>
    intro k p w f hk hf
    obtain ⟨f, rfl⟩ := suc hf
    have hk2 : k < (txt t).length := by omega
    rw [f_X7_among_L17, length_t M ht, ob_s, if_neg (nI_ge hk2 (by omega)), charAt_t M ht hk2, ob_s, nI_1 k, drop_k hk2, wordsL]
    by_cases hb : (txt t).getD k 0 = 32
    · rw [if_pos hb, if_pos hb, idx]
      by_cases h : w = gL M 2 6
      · rw [if_pos ((lg_cmp_eq _ _).mpr h), if_pos h]
      · rw [if_neg (fun z => h ((lg_cmp_eq _ _).mp z)), if_neg h]
        exact ih (k + 1) (p + 1) 0 f (by omega) (by omega)
    · rw [if_neg hb, if_neg hb]
      exact ih (k + 1) p _ f (by omega) (by omega)
theorem among_c (M : MM) {t : Nat} (ht : t < 57) : f_X7_among M 2 t = some (if gI M 2 4 = 1 then idx (wordsL (txt t) 0) 0 (gL M 2 6) else -1) := by
  unfold f_X7_among
  have l2 := (lens t ht).2.1
  by_cases h : gI M 2 4 = 1
  · rw [if_pos h, if_pos h, show (0 : Int32) = nI 0 from rfl, among_l ht (txt t).length 0 (nI 0) 0 FU (by omega) (fu (by omega))]
    rfl
  · rw [if_neg h, if_neg h]
theorem wordOf_l {M : MM} {t : Nat} (ht : t < 57) : ∀ (d k : Nat) (a : Int64) (f : Nat), k + d = (txt t).length → d < f → f_X13_wordOf_L4 f M t a (nI k) = some (wcode ((txt t).drop k) a) := by
  have l2 := (lens t ht).2.1
  intro d
  induction d with
  | zero =>
    intro k a f hk hf
    obtain ⟨f, rfl⟩ := suc hf
    rw [f_X13_wordOf_L4, length_t M ht, ob_s, if_pos (nI_le (by omega) (by omega)), List.drop_eq_nil_of_le (by omega), wcode]
  | succ d ih =>
    intro k a f hk hf
    obtain ⟨f, rfl⟩ := suc hf
    have hk2 : k < (txt t).length := by omega
    rw [f_X13_wordOf_L4, length_t M ht, ob_s, if_neg (nI_ge hk2 (by omega)), charAt_t M ht hk2, ob_s, nI_1 k, drop_k hk2, wcode]
    exact ih (k + 1) _ f (by omega) (by omega)
theorem isWord_r (R : MM) {t : Nat} (ht : t < 57) : f_X13_isWord R 118 t = some (if gI R 118 9 = 2 then (if cd t = gL R 118 15 then 1 else 0) else 0) := by
  unfold f_X13_isWord f_X13_wordOf
  have l2 := (lens t ht).2.1
  rw [show (0 : Int32) = nI 0 from rfl, wordOf_l ht (txt t).length 0 0 FU (by omega) (fu (by omega)), ob_s]
  show (if gI R 118 9 = 2 then (if lg_cmp (gL R 118 15) (cd t) = 0 then some 1 else some 0) else some 0) = _
  by_cases h : gI R 118 9 = 2
  · rw [if_pos h, if_pos h]
    by_cases e : cd t = gL R 118 15
    · rw [if_pos ((lg_cmp_eq _ _).mpr e.symm), if_pos e]
    · rw [if_neg (fun z => e ((lg_cmp_eq _ _).mp z).symm), if_neg e]; rfl
  · rw [if_neg h, if_neg h]; rfl
theorem W0 : wordsL (txt 0) 0 = [cd 30, cd 31, cd 32, cd 33, cd 37, cd 38, cd 39, cd 34, cd 35, cd 36] := by decide +kernel
theorem W1 : wordsL (txt 1) 0 = [cd 42, cd 43, cd 44, cd 45] := by decide +kernel
theorem W6 : wordsL (txt 6) 0 = [cd 40, cd 41] := by decide +kernel
theorem W11 : wordsL (txt 11) 0 = [cd 46, cd 47, cd 48, cd 49, cd 50, cd 10] := by decide +kernel
theorem W12 : wordsL (txt 12) 0 = [cd 51, cd 52, cd 53] := by decide +kernel
theorem W19 : wordsL (txt 19) 0 = [cd 54, cd 55, cd 56] := by decide +kernel
theorem W29 : wordsL (txt 29) 0 = [cd 30, cd 31, cd 32, cd 33, cd 34, cd 35, cd 36, cd 37, cd 38, cd 39, cd 40, cd 41, cd 23] := by decide +kernel
theorem W_one : ∀ t, t < 57 → t ∉ [0, 1, 6, 11, 12, 19, 29] → wordsL (txt t) 0 = [cd t] := by decide +kernel
/-- the codes are numbers of their own -/
theorem cd_ne : ∀ a, a < 42 → ∀ b, b < a → 30 ≤ b → cd a ≠ cd b := by decide +kernel
/-! THE READERS' STATE -/
/-- the class's tape, whatever stands there -/
def WC (C : MM) (n : Nat) : Prop := n ≤ 900 ∧ gI C 2 2 = nI n ∧ (∃ p, p ≤ n ∧ gI C 2 3 = nI p) ∧ ∀ k, k < n → ∃ z : Int32, gI C 3 k = z.toInt8.toInt32
def TK (C R : MM) (n s : Nat) : Prop := BY C R n ∧ (∃ p, s ≤ p ∧ p ≤ n ∧ gI C 2 3 = nI p ∧ (gI R 118 8 = nI p ∨ gI C 2 4 = 0) ∧ (gI C 2 4 ≠ 4 → s < p)) ∧ gI C 2 5 = nI s ∧ gI R 118 10 = nI s ∧ LX C R
/-- no fault so far -/
def AL (C R : MM) (n s : Nat) : Prop := gI C 4 5 = 0 ∧ gI R 118 13 = 0 ∧ TK C R n s
/-- a fault, the same on both sides -/
def DE (C R : MM) (n : Nat) : Prop := gI R 118 9 = 5 ∧ gI C 4 5 = gI R 118 13 ∧ gI C 4 5 ≠ 0 ∧ (gI C 4 6 = gI R 118 14 ∧ 0 < gI C 4 5) ∧ WC C n
/-- what holds of the references throughout -/
def RF (C R : MM) (jr : Nat) : Prop := gR C 4 0 = some 2 ∧ gR C 4 1 = some 5 ∧ gR C 4 2 = some 6 ∧ gR C 4 3 = some 7 ∧ gR C 2 0 = some 3 ∧ gR R 118 4 = some jr ∧ gR R 118 5 = some 119 ∧ JS R jr ∧ 123 < jr
theorem RF.congr {C R C' R' : MM} {jr : Nat} (h : RF C R jr) (hc : C'.2.2 = C.2.2) (hr : R'.2.2 = R.2.2) : RF C' R' jr := by
  obtain ⟨h1, h2, h3, h4, h5, h6, h7, h8, h9⟩ := h
  refine ⟨?_, ?_, ?_, ?_, ?_, ?_, ?_, h8.congr hr, h9⟩
  all_goals (unfold gR at *; first | rw [hc]; assumption | rw [hr]; assumption)
def S2 (C R : MM) (n s : Nat) : Prop := AL C R n s ∨ DE C R n
/-- what the readers' own steps write -/
def PFc (C C' : MM) : Prop := C'.2.2 = C.2.2 ∧ (∀ a k, (a ≠ 2 ∨ k < 3) → (a ≠ 4 ∨ k < 5) → gI C' a k = gI C a k) ∧ ∀ a k, a ≠ 2 → gL C' a k = gL C a k
def PFr (R R' : MM) : Prop := R'.2.2 = R.2.2 ∧ (∀ a k, a ≠ 118 ∨ k < 8 ∨ 14 < k → gI R' a k = gI R a k) ∧ ∀ a k, a ≠ 118 → gL R' a k = gL R a k
theorem PFc.rf (C : MM) : PFc C C := ⟨rfl, fun _ _ _ _ => rfl, fun _ _ _ => rfl⟩
theorem PFr.rf (R : MM) : PFr R R := ⟨rfl, fun _ _ _ => rfl, fun _ _ _ => rfl⟩
theorem PFc.tr {A B C : MM} (h1 : PFc A B) (h2 : PFc B C) : PFc A C := ⟨h2.1.trans h1.1, fun a k q q' => (h2.2.1 a k q q').trans (h1.2.1 a k q q'), fun a k q => (h2.2.2 a k q).trans (h1.2.2 a k q)⟩
theorem PFr.tr {A B C : MM} (h1 : PFr A B) (h2 : PFr B C) : PFr A C := ⟨h2.1.trans h1.1, fun a k q => (h2.2.1 a k q).trans (h1.2.1 a k q), fun a k q => (h2.2.2 a k q).trans (h1.2.2 a k q)⟩
theorem TFc.p {C C' : MM} (h : TFc C C') : PFc C C' := ⟨h.1, fun a k q _ => h.2.1 a k q, h.2.2⟩
theorem TFr.p {R R' : MM} (h : TFr R R') : PFr R R' := ⟨h.1, fun a k q => h.2.1 a k (by omega), h.2.2⟩
theorem LX.ne5 {C R : MM} (h : LX C R) : ¬ gI R 118 9 = 5 := by
  rcases h with ⟨-, h⟩ | ⟨-, h, -⟩ | ⟨-, h, -⟩ | ⟨-, h, -⟩ | ⟨-, h⟩ <;> rw [h] <;> decide
theorem AL.wc {C R : MM} {n s : Nat} (h : AL C R n s) : WC C n := by
  obtain ⟨-, -, ⟨b1, b2, b3, b4, b5, b6⟩, ⟨p, p1, p2, p3, -⟩, -⟩ := h
  exact ⟨b1, b4, ⟨p, p2, p3⟩, fun k hk => (b6 k hk).2⟩
theorem WC.put {C : MM} {n : Nat} (h : WC C n) {a : Nat} (ha : a ≠ 2 ∧ a ≠ 3) (k : Nat) (v : Int32) : WC (pI C a k v) n := by
  obtain ⟨h1, h2, ⟨p, h3, h4⟩, h5⟩ := h
  refine ⟨h1, by rw [gI_pIa (by omega)]; exact h2, ⟨p, h3, by rw [gI_pIa (by omega)]; exact h4⟩, fun i hi => ?_⟩
  rw [gI_pIa (by omega)]
  exact h5 i hi
/-- a fault is told: both are stopped, at the token's place -/
theorem p_fail {C R : MM} {jr n s : Nat} (hF : RF C R jr) (h : S2 C R n s) (x : Int32) (hx : 0 < x) : ∃ C' R', f_X2_fail C 4 x = some C' ∧ f_X13_wrong R 118 x = some R' ∧ PFc C C' ∧ PFr R R' ∧ DE C' R' n := by
  unfold f_X2_fail f_X13_wrong
  rcases h with h | h
  · have hw := h.wc
    obtain ⟨h1, h2, hB, -, h5, h6, hL⟩ := h
    rw [if_pos h1, show gR (pI C 4 5 x) 4 0 = some 2 from hF.1, oc_x, if_neg hL.ne5, gI_pIa (show 2 ≠ 4 by decide), h5, gI_pIk (show 10 ≠ 13 by decide), h6]
    refine ⟨_, _, rfl, rfl, ⟨rfl, fun a k q q' => by rw [gI_pIn (by omega), gI_pIn (by omega)], fun _ _ _ => rfl⟩, ⟨rfl, fun a k q => by rw [gI_pIn (by omega), gI_pIn (by omega), gI_pIn (by omega)], fun _ _ _ => rfl⟩, gI_pIs _ _ _ _, ?_, ?_, ?_, (hw.put (by omega) _ _).put (by omega) _ _⟩
    · rw [gI_pIk (by decide), gI_pIs, gI_pIk (by decide), gI_pIk (by decide), gI_pIs]
    · rw [gI_pIk (by decide), gI_pIs]; exact fun z => absurd (show (0 : Int32) < 0 by rw [z] at hx; exact hx) (by decide)
    · exact ⟨by rw [gI_pIs, gI_pIk (by decide), gI_pIs], by rw [gI_pIk (by decide), gI_pIs]; exact hx⟩
  · rw [if_neg h.2.2.1, if_pos h.1]
    exact ⟨C, R, rfl, rfl, PFc.rf C, PFr.rf R, h⟩
theorem de_wrong {C R : MM} {n : Nat} (h : DE C R n) (x : Int32) : f_X13_wrong R 118 x = some R := by
  unfold f_X13_wrong
  rw [if_pos h.1]
theorem de_goes {C R : MM} {n : Nat} (h : DE C R n) : f_X13_goesOn R 118 = some R := by
  unfold f_X13_goesOn
  rw [if_pos h.1]
theorem de_word {C R : MM} {n t : Nat} (h : DE C R n) (ht : t < 57) : f_X13_isWord R 118 t = some 0 := by
  rw [isWord_r R ht, if_neg (by rw [h.1]; decide)]
/-- the class's tape goes on, whatever stands there -/
theorem wc_adv {C : MM} {n : Nat} (h : WC C n) (hr : gR C 2 0 = some 3) : ∃ C', f_X7_advance C 2 = some C' ∧ TFc C C' ∧ WC C' n := by
  obtain ⟨h1, h2, ⟨p, h3, h4⟩, h5⟩ := h
  obtain ⟨R0, hR0⟩ : ∃ R0 : MM, R0 = (fun a k => if a = 118 then (if k = 7 then nI n else if k = 8 then nI p else 0) else if a = 119 then gI C 3 k else 0, fun _ _ => 0, fun a k => if a = 118 ∧ k = 5 then some 119 else none) := ⟨_, rfl⟩
  have hB : BY C R0 n := ⟨h1, hr, by rw [hR0]; rfl, h2, by rw [hR0]; rfl, fun k hk => ⟨by rw [hR0]; rfl, h5 k hk⟩⟩
  obtain ⟨C', R', s, p', a1, -, a3, -, a5, a6, a7, a8, -⟩ := goes hB h3 h4 (by rw [hR0]; rfl) (by rw [hR0]; show ¬ (0 : Int32) = 5; decide)
  refine ⟨C', a1, a3, h1, by rw [a3.2.1 2 2 (by omega)]; exact h2, ⟨p', a7, a8⟩, fun k hk => ?_⟩
  rw [a3.2.1 3 k (by omega)]
  exact h5 k hk
/-- the next token -/
theorem p_adv {C R : MM} {jr n s : Nat} (hF : RF C R jr) (h : S2 C R n s) (h0 : AL C R n s → gI C 2 4 ≠ 0) : ∃ C' R', f_X7_advance C 2 = some C' ∧ f_X13_goesOn R 118 = some R' ∧ PFc C C' ∧ PFr R R' ∧ ((AL C R n s ∧ ∃ s', s ≤ s' ∧ (gI C 2 4 ≠ 4 → s < s') ∧ AL C' R' n s') ∨ (DE C R n ∧ R' = R ∧ DE C' R' n)) := by
  rcases h with h | h
  · have ht := h0 h
    have h' := h
    obtain ⟨h1, h2, hB, ⟨p, p1, p2, p3, p4, p5⟩, h5, h6, hL⟩ := h
    obtain ⟨C', R', s', p', a1, a2, a3, a4, a5, a6, a7, a8, a9, a10, a11, a12, a13⟩ := goes hB p2 p3 (p4.resolve_right ht) hL.ne5
    refine ⟨C', R', a1, a2, a3.p, a4.p, Or.inl ⟨h', s', by omega, fun z => by have := p5 z; omega, ?_, ?_, hB.go a3 a4, ⟨p', a6, a7, a8, a9, a13⟩, a10, a11, a12⟩⟩
    · rw [a3.2.1 4 5 (by omega)]; exact h1
    · rw [a4.2.1 118 13 (by omega)]; exact h2
  · obtain ⟨C', a1, a2, a3⟩ := wc_adv h.2.2.2.2 hF.2.2.2.2.1
    refine ⟨C', R, a1, de_goes h, a2.p, PFr.rf R, Or.inr ⟨h, rfl, h.1, ?_, ?_, ?_, a3⟩⟩
    · rw [a2.2.1 4 5 (by omega)]; exact h.2.1
    · rw [a2.2.1 4 5 (by omega)]; exact h.2.2.1
    · exact ⟨by rw [a2.2.1 4 6 (by omega)]; exact h.2.2.2.1.1, by rw [a2.2.1 4 5 (by omega)]; exact h.2.2.2.1.2⟩
/-- stopped, the class's tape goes on -/
theorem de_adv {C R : MM} {jr n : Nat} (hF : RF C R jr) (h : DE C R n) : ∃ C', f_X7_advance C 2 = some C' ∧ PFc C C' ∧ DE C' R n := by
  obtain ⟨C', a1, a2, a3⟩ := wc_adv h.2.2.2.2 hF.2.2.2.2.1
  refine ⟨C', a1, a2.p, h.1, ?_, ?_, ?_, a3⟩
  · rw [a2.2.1 4 5 (by omega)]; exact h.2.1
  · rw [a2.2.1 4 5 (by omega)]; exact h.2.2.1
  · exact ⟨by rw [a2.2.1 4 6 (by omega)]; exact h.2.2.2.1.1, by rw [a2.2.1 4 5 (by omega)]; exact h.2.2.2.1.2⟩
theorem AL.put {C R : MM} {n s : Nat} (h : AL C R n s) {a : Nat} (ha : 8 ≤ a) (k : Nat) (v : Int32) : AL (pI C a k v) R n s := by
  obtain ⟨h1, h2, ⟨b1, b2, b3, b4, b5, b6⟩, ⟨p, p1, p2, p3, p4, p5⟩, h5, h6, hL⟩ := h
  have e : ∀ b i, b < 8 → gI (pI C a k v) b i = gI C b i := fun b i hb => gI_pIa (by omega)
  refine ⟨by rw [e 4 5 (by decide)]; exact h1, h2, ⟨b1, b2, b3, by rw [e 2 2 (by decide)]; exact b4, b5, fun i hi => by rw [e 3 i (by decide)]; exact b6 i hi⟩, ⟨p, p1, p2, by rw [e 2 3 (by decide)]; exact p3, by rw [e 2 4 (by decide)]; exact p4, by rw [e 2 4 (by decide)]; exact p5⟩, by rw [e 2 5 (by decide)]; exact h5, h6, ?_⟩
  unfold LX at *
  rw [e 2 4 (by decide)]
  exact hL
theorem AL.putr {C R : MM} {n s : Nat} (h : AL C R n s) {a : Nat} (ha : 123 < a) (k : Nat) (v : Int32) : AL C (pI R a k v) n s := by
  obtain ⟨h1, h2, ⟨b1, b2, b3, b4, b5, b6⟩, ⟨p, p1, p2, p3, p4, p5⟩, h5, h6, hL⟩ := h
  have e : ∀ b i, b < 124 → gI (pI R a k v) b i = gI R b i := fun b i hb => gI_pIa (by omega)
  refine ⟨h1, by rw [e 118 13 (by decide)]; exact h2, ⟨b1, b2, b3, b4, by rw [e 118 7 (by decide)]; exact b5, fun i hi => by rw [e 119 i (by decide)]; exact b6 i hi⟩, ⟨p, p1, p2, p3, by rw [e 118 8 (by decide)]; exact p4, p5⟩, h5, by rw [e 118 10 (by decide)]; exact h6, ?_⟩
  unfold LX at *
  rw [e 118 9 (by decide), e 118 12 (by decide), e 118 11 (by decide)]
  exact hL
theorem DE.put {C R : MM} {n : Nat} (h : DE C R n) {a : Nat} (ha : 8 ≤ a) (k : Nat) (v : Int32) : DE (pI C a k v) R n :=
  ⟨h.1, by rw [gI_pIa (by omega)]; exact h.2.1, by rw [gI_pIa (by omega)]; exact h.2.2.1, ⟨by rw [gI_pIa (by omega)]; exact h.2.2.2.1.1, by rw [gI_pIa (by omega)]; exact h.2.2.2.1.2⟩, h.2.2.2.2.put (by omega) _ _⟩
theorem DE.putr {C R : MM} {n : Nat} (h : DE C R n) {a : Nat} (ha : 123 < a) (k : Nat) (v : Int32) : DE C (pI R a k v) n :=
  ⟨by rw [gI_pIa (by omega)]; exact h.1, by rw [gI_pIa (by omega)]; exact h.2.1, h.2.2.1, ⟨by rw [gI_pIa (by omega)]; exact h.2.2.2.1.1, h.2.2.2.1.2⟩, h.2.2.2.2⟩
theorem S2.put {C R : MM} {n s : Nat} (h : S2 C R n s) {a : Nat} (ha : 8 ≤ a) (k : Nat) (v : Int32) : S2 (pI C a k v) R n s := h.elim (fun z => Or.inl (z.put ha k v)) (fun z => Or.inr (z.put ha k v))
theorem S2.putr {C R : MM} {n s : Nat} (h : S2 C R n s) {a : Nat} (ha : 123 < a) (k : Nat) (v : Int32) : S2 C (pI R a k v) n s := h.elim (fun z => Or.inl (z.putr ha k v)) (fun z => Or.inr (z.putr ha k v))
