/-! LEAVES, BOTH SIDES: each is one function of numbers -/
theorem i32_le {a b : Int32} (h : ¬ a < b) : b ≤ a := Int32.not_lt.mp h
theorem i32_lt {a b : Int32} (h : ¬ a ≤ b) : b < a := Int32.not_le.mp h
theorem in_eq (M : MM) (x l h : Int32) : f_X13_in M x l h = some (if x < l then 0 else if h < x then 0 else 1) := by
  unfold f_X13_in
  split
  · rfl
  · split <;> rfl
def canS (k t l e s : Int32) : Int32 := if k = 0 then (if l < 5 then 0 else if 25 < l then 0 else if e < 3 then 0 else if l / 2 < s then 0 else if s < -(l / 4) then 0 else 1) else if k = 1 then (if s < (-6) then 0 else if 8 < s then 0 else 1) else if k = 2 then (if 30 < t then 0 else if s < (-3) then 0 else if 5 < s then 0 else 1) else (if 20 < t then 0 else if 12 < s then 0 else 1)
theorem carries_c (M : MM) (a c : Nat) (s : Int32) : f_X10_carries M a c s = some (canS (gI M a 0) (gI M c 0) (gI M c 1) (gI M c 2) s) := by
  unfold f_X10_carries canS
  simp only [apply_ite (some : Int32 → Option Int32)]
theorem canGo_r (M : MM) (k t l e s : Int32) : f_X13_canGo M k t l e s = some (canS k t l e s) := by
  unfold f_X13_canGo canS
  simp only [in_eq, ob_s]
  by_cases h0 : k = 0
  · simp only [if_pos h0]
    by_cases h1 : l < 5
    · simp [h1]
    · by_cases h2 : 25 < l
      · simp [h1, h2]
      · simp [h1, h2, apply_ite (some : Int32 → Option Int32)]
  · simp only [if_neg h0]
    by_cases h1 : k = 1
    · simp [h1]
    · simp only [if_neg h1]
      by_cases h2 : k = 2
      · simp only [if_pos h2]
        by_cases h3 : 30 < t
        · simp [h3]
        · by_cases h4 : s < -3
          · simp [h3, h4]
          · by_cases h5 : 5 < s <;> simp [h3, h4, h5]
      · simp [h2, apply_ite (some : Int32 → Option Int32)]
theorem canS_01 (k t l e s : Int32) : canS k t l e s = 0 ∨ canS k t l e s = 1 := by
  unfold canS
  repeat' split
  all_goals first | exact Or.inl rfl | exact Or.inr rfl
def upS (d q : Int32) : Int32 := (d + q - 1) / q
theorem up_c {M : MM} {d q : Int32} (h : ¬ q ≤ 0) : f_X11_upwards M d q = some (upS d q) := by
  unfold f_X11_upwards upS
  rw [if_neg h, chk_f (fun z => h (by rw [z]; exact Int32.le_refl _))]
theorem up_r {M : MM} {d q : Int32} (h : ¬ q ≤ 0) : f_X13_up M d q = some (upS d q) := by
  unfold f_X13_up upS
  rw [chk_f (fun z => h (by rw [z]; exact Int32.le_refl _))]
theorem pull_pos {p : Nat} (h1 : 1 ≤ p) (h2 : p ≤ 20) : ¬ (100 * nI p ≤ (0 : Int32)) := by
  rw [show (100 : Int32) = nI 100 from rfl, pk_mul, show (0 : Int32) = nI 0 from rfl, nI_leI (by omega) (by decide)]
  omega
theorem k4 {k : Nat} (h : k < 4) : k = 0 ∨ k = 1 ∨ k = 2 ∨ k = 3 := by omega
theorem k3 {k : Nat} (h : k < 3) : k = 0 ∨ k = 1 ∨ k = 2 := by omega
def maxS (s : Int32) : Int32 := if s < 0 then 0 else s
def needS (k : Nat) (p t s : Int32) : Int32 := upS (t * 10 * stv 1 k * (100 + 5 * maxS s)) (100 * p)
theorem hands_c {M : MM} {a k p : Nat} {t s : Int32} (hk : gI M a 0 = nI k) (h4 : k < 4) (hp : gI M a 2 = nI p) (p1 : 1 ≤ p) (p2 : p ≤ 20) : f_X10_hands M a t s = some (needS k (nI p) t s) := by
  unfold f_X10_hands
  rw [hk, entryS_s (show k < stl 1 from h4) (by decide), ob_s, hp, up_c (pull_pos p1 p2), ob_s]
  rfl
theorem maxS_le {s : Int32} (h : s ≤ 0) : maxS s = 0 := by
  unfold maxS
  split
  · rfl
  · next q => exact Int32.le_antisymm h (i32_le q)
theorem maxS_gt {s : Int32} (h : ¬ s ≤ 0) : maxS s = s := if_neg (fun q => h (Int32.le_of_lt q))
theorem kd00 : (nI 0 = (0 : Int32)) = True := eq_true rfl
theorem kd01 : (nI 0 = (1 : Int32)) = False := eq_false (by decide)
theorem kd02 : (nI 0 = (2 : Int32)) = False := eq_false (by decide)
theorem kd03 : (nI 0 = (3 : Int32)) = False := eq_false (by decide)
theorem kd10 : (nI 1 = (0 : Int32)) = False := eq_false (by decide)
theorem kd11 : (nI 1 = (1 : Int32)) = True := eq_true rfl
theorem kd12 : (nI 1 = (2 : Int32)) = False := eq_false (by decide)
theorem kd13 : (nI 1 = (3 : Int32)) = False := eq_false (by decide)
theorem kd20 : (nI 2 = (0 : Int32)) = False := eq_false (by decide)
theorem kd21 : (nI 2 = (1 : Int32)) = False := eq_false (by decide)
theorem kd22 : (nI 2 = (2 : Int32)) = True := eq_true rfl
theorem kd23 : (nI 2 = (3 : Int32)) = False := eq_false (by decide)
theorem kd30 : (nI 3 = (0 : Int32)) = False := eq_false (by decide)
theorem kd31 : (nI 3 = (1 : Int32)) = False := eq_false (by decide)
theorem kd32 : (nI 3 = (2 : Int32)) = False := eq_false (by decide)
theorem kd33 : (nI 3 = (3 : Int32)) = True := eq_true rfl
section REF
variable {M : MM} {j : Nat} {D : DT}
theorem needBy_r {w k p : Nat} {t s : Int32} (h : RI M j D) (hw : w < 4) (hk : D 1 w = nI k) (h4 : k < 4) (hp : D 3 w = nI p) (p1 : 1 ≤ p) (p2 : p ≤ 20) : f_X13_needBy M 118 (nI w) t s = some (needS k (nI p) t s) := by
  unfold f_X13_needBy
  simp only [h.j, oc_x, h.s.k9, h.s.k11, chk_m hw (by decide), ix_n (show w < 2147483648 by omega), h.d 1 w (by decide), h.d 3 w (by decide), hk, hp, up_r (pull_pos p1 p2), ob_s]
  unfold needS
  by_cases hs : s ≤ 0
  · rw [maxS_le hs]
    rcases k4 h4 with rfl | rfl | rfl | rfl <;> simp only [kd01, kd03, kd11, kd21, kd23, kd31, kd33, if_true, if_false, if_pos hs] <;> rfl
  · rw [maxS_gt hs]
    rcases k4 h4 with rfl | rfl | rfl | rfl <;> simp only [kd01, kd03, kd11, kd21, kd23, kd31, kd33, if_true, if_false, if_neg hs] <;> rfl
def durS (k : Nat) (nd people : Int32) : Int32 := if upS (stv 2 k * nd) people < stv 2 k / 2 then stv 2 k / 2 else upS (stv 2 k * nd) people
theorem duration_c {a k p : Nat} {t s people : Int32} (hk : gI M a 0 = nI k) (h4 : k < 4) (hp : gI M a 2 = nI p) (p1 : 1 ≤ p) (p2 : p ≤ 20) (hq : ¬ people ≤ 0) : f_X10_duration M a t s people = some (durS k (needS k (nI p) t s) people) := by
  unfold f_X10_duration
  rw [hands_c hk h4 hp p1 p2, hk, entryS_s (show k < stl 2 from h4) (by decide), ob_s, ob_s, up_c hq, ob_s]
  rfl
theorem ite_le {α : Type} {a b : Int32} (x y : α) : (if a ≤ b then x else y) = if b < a then y else x := by
  by_cases h : a ≤ b
  · rw [if_pos h, if_neg (fun q => absurd h (Int32.not_le.mpr q))]
  · rw [if_neg h, if_pos (i32_lt h)]
theorem minutesBy_r {w k : Nat} {nd people : Int32} (h : RI M j D) (hw : w < 4) (hk : D 1 w = nI k) (h4 : k < 4) (hq : ¬ people ≤ 0) : f_X13_minutesBy M 118 (nI w) nd people = some (durS k nd people) := by
  unfold f_X13_minutesBy durS
  simp only [h.j, oc_x, h.s.k9, chk_m hw (by decide), ix_n (show w < 2147483648 by omega), h.d 1 w (by decide), hk, up_r hq, ob_s, ite_le]
  rcases k4 h4 with rfl | rfl | rfl | rfl <;> simp only [kd00, kd01, kd02, kd10, kd11, kd12, kd20, kd21, kd22, kd30, kd31, kd32, if_true, if_false] <;> simp only [apply_ite (some : Int32 → Option Int32)] <;> rfl
def absS (s : Int32) : Int32 := if 0 ≤ s then s else 0 - s
def minS (v : Int32) : Int32 := if 100 < v then 100 else v
def riskS (k : Nat) (e s : Int32) : Int32 := if k = 0 then minS (stv 4 k * absS s + (if 10 - e < 0 then 0 else 10 - e)) else minS (stv 4 k * absS s)
theorem risk_c {a k : Nat} {e s : Int32} (hk : gI M a 0 = nI k) (h4 : k < 4) : f_X10_risk M a e s = some (riskS k e s) := by
  unfold f_X10_risk riskS minS absS
  rw [hk, entryS_s (show k < stl 4 from h4) (by decide), ob_s]
  rcases k4 h4 with rfl | rfl | rfl | rfl <;> simp only [kd00, kd10, kd20, kd30, if_true, if_false] <;> rfl
theorem edge_0 {e : Int32} (h : 10 - e ≤ 0) : (if 10 - e < 0 then (0 : Int32) else 10 - e) = 0 := by
  split
  · rfl
  · next q => exact Int32.le_antisymm h (i32_le q)
theorem chanceBy_r {w k t : Nat} {s : Int32} (h : RI M j D) (hw : w < 4) (ht : t < 10) (hk : D 1 w = nI k) (h4 : k < 4) : f_X13_chanceBy M 118 (nI w) (nI t) s = some (riskS k (D 9 t) s) := by
  unfold f_X13_chanceBy riskS
  simp only [h.j, oc_x, h.s.k9, h.s.k17, chk_m hw (by decide), chk_m ht (by decide), ix_n (show w < 2147483648 by omega), ix_n (show t < 2147483648 by omega), h.d 1 w (by decide), h.d 9 t (by decide), hk, ite_le]
  have e2 : stv 4 0 = 2 := rfl
  have e1 : stv 4 1 = 1 := rfl
  have e3 : stv 4 2 = 3 := rfl
  have e0 : stv 4 3 = 0 := rfl
  have hc : ∀ v : Int32, (if 100 < v then some 100 else some v) = some (minS v) := fun v => by unfold minS; split <;> rfl
  have z0 : minS 0 = 0 := by decide
  by_cases hs : s < 0
  · have ha : absS s = -s := by unfold absS; rw [if_neg (Int32.not_le.mpr hs), Int32.zero_sub]
    rw [ha]
    simp only [if_pos hs, hc]
    rcases k4 h4 with rfl | rfl | rfl | rfl <;> simp only [kd00, kd01, kd02, kd10, kd11, kd12, kd20, kd21, kd22, kd30, kd31, kd32, if_true, if_false, e0, e1, e2, e3, Int32.one_mul, Int32.zero_mul, z0, Nat.one_ne_zero, (by decide : ¬ (2 : Nat) = 0), (by decide : ¬ (3 : Nat) = 0)]
    by_cases he : 0 < 10 - D 9 t
    · rw [if_pos he, if_neg (fun q => Int32.lt_irrefl (Int32.lt_trans he q))]
    · rw [if_neg he, edge_0 (i32_le he)]
  · have ha : absS s = s := by unfold absS; rw [if_pos (i32_le hs)]
    rw [ha]
    simp only [if_neg hs, hc]
    rcases k4 h4 with rfl | rfl | rfl | rfl <;> simp only [kd00, kd01, kd02, kd10, kd11, kd12, kd20, kd21, kd22, kd30, kd31, kd32, if_true, if_false, e0, e1, e2, e3, Int32.one_mul, Int32.zero_mul, z0, Nat.one_ne_zero, (by decide : ¬ (2 : Nat) = 0), (by decide : ¬ (3 : Nat) = 0)]
    by_cases he : 0 < 10 - D 9 t
    · rw [if_pos he, if_neg (fun q => Int32.lt_irrefl (Int32.lt_trans he q))]
    · rw [if_neg he, edge_0 (i32_le he)]
def grd (s : Int32) : Nat := if s < 0 then 0 else if s = 0 then 1 else 2
theorem grd_3 (s : Int32) : grd s < 3 := by unfold grd; split; · decide
                                            · split <;> decide
def tenS (k g l : Nat) : Int32 := stv 6 ((k * 3 + g) * 3 + l)
theorem compare_c (s : Int32) : f_J6_compare_7cf53 M s 0 = some (nI (grd s) - 1) := by
  unfold f_J6_compare_7cf53 grd
  by_cases h : s < 0
  · rw [if_neg (Int32.not_le.mpr h), if_pos h]; rfl
  · rw [if_pos (i32_le h), if_neg h]
    split <;> rfl
theorem tenths_c {a k l : Nat} {s : Int32} (hk : gI M a 0 = nI k) (h4 : k < 4) (h3 : l < 3) : f_X10_tenths M a s (nI l) = some (tenS k (grd s) l) := by
  unfold f_X10_tenths tenS
  have hg := grd_3 s
  rw [compare_c, ob_s, hk, Int32.sub_add_cancel, show (3 : Int32) = nI 3 from rfl, pk_mul, nI_add, pk_mul, nI_add, entryS_s (show (k * 3 + grd s) * 3 + l < stl 6 by show _ < 36; omega) (by decide), ob_s]
theorem tenths_r {w k l : Nat} {s : Int32} (h : RI M j D) (hw : w < 4) (hk : D 1 w = nI k) (h4 : k < 4) (h3 : l < 3) : f_X13_tenths M 118 (nI w) s (nI l) = some (tenS k (grd s) l) := by
  unfold f_X13_tenths tenS grd
  simp only [h.j, oc_x, h.s.k9, chk_m hw (by decide), ix_n (show w < 2147483648 by omega), h.d 1 w (by decide), hk, ite_le]
  by_cases hs : s < 0
  · simp only [if_pos hs]
    rcases k4 h4 with rfl | rfl | rfl | rfl <;> simp only [kd00, kd01, kd02, kd10, kd11, kd12, kd20, kd21, kd22, kd30, kd31, kd32, if_true, if_false] <;> rcases k3 h3 with rfl | rfl | rfl <;> simp only [kd00, kd01, kd10, kd11, kd20, kd21, if_true, if_false] <;> rfl
  · simp only [if_neg hs]
    by_cases h0 : s = 0
    · simp only [if_pos h0]
      rcases k4 h4 with rfl | rfl | rfl | rfl <;> simp only [kd00, kd01, kd02, kd10, kd11, kd12, kd20, kd21, kd22, kd30, kd31, kd32, if_true, if_false] <;> rcases k3 h3 with rfl | rfl | rfl <;> simp only [kd00, kd01, kd10, kd11, kd20, kd21, if_true, if_false] <;> rfl
    · simp only [if_neg h0]
      rcases k4 h4 with rfl | rfl | rfl | rfl <;> simp only [kd00, kd01, kd02, kd10, kd11, kd12, kd20, kd21, kd22, kd30, kd31, kd32, if_true, if_false] <;> rcases k3 h3 with rfl | rfl | rfl <;> simp only [kd00, kd01, kd10, kd11, kd20, kd21, if_true, if_false] <;> rfl
theorem woodFor_c {a k : Nat} {t : Int32} (hk : gI M a 0 = nI k) (h4 : k < 4) : f_X10_woodFor M a t = some (stv 3 k * t) := by
  unfold f_X10_woodFor
  rw [hk, entryS_s (show k < stl 3 from h4) (by decide), ob_s]
theorem woodOf_r {w k : Nat} {t : Int32} (h : RI M j D) (hw : w < 4) (hk : D 1 w = nI k) (h4 : k < 4) : f_X13_woodOf M 118 (nI w) t = some (stv 3 k * t) := by
  unfold f_X13_woodOf
  simp only [h.j, oc_x, h.s.k9, chk_m hw (by decide), ix_n (show w < 2147483648 by omega), h.d 1 w (by decide), hk]
  rcases k4 h4 with rfl | rfl | rfl | rfl <;> simp only [kd01, kd02, kd03, kd11, kd12, kd13, kd21, kd22, kd23, kd31, kd32, kd33, if_true, if_false] <;> rw [Int32.mul_comm] <;> rfl
def holS (k : Nat) (x : Int32) : Int32 := if x < 3 then 10 - stv 5 k else stv 5 k
theorem hollowed_c {a k : Nat} {x : Int32} (hk : gI M a 0 = nI k) (h4 : k < 4) : f_X10_hollowed M a x = some (holS k x) := by
  unfold f_X10_hollowed holS
  rw [hk, entryS_s (show k < stl 5 from h4) (by decide), ob_s]
  split <;> rfl
theorem hollowOf_r {w k r : Nat} (h : RI M j D) (hw : w < 4) (hr : r < 3) (hk : D 1 w = nI k) (h4 : k < 4) : f_X13_hollowOf M 118 (nI w) (nI r) = some (holS k (D 4 r)) := by
  unfold f_X13_hollowOf holS
  simp only [h.j, oc_x, h.s.k9, h.s.k12, chk_m hw (by decide), chk_m hr (by decide), ix_n (show w < 2147483648 by omega), ix_n (show r < 2147483648 by omega), h.d 1 w (by decide), h.d 4 r (by decide), hk]
  rcases k4 h4 with rfl | rfl | rfl | rfl <;> simp only [kd00, kd01, kd02, kd10, kd11, kd12, kd20, kd21, kd22, kd30, kd31, kd32, if_true, if_false] <;> simp only [apply_ite (some : Int32 → Option Int32)] <;> rfl
def tolS (st ms w : Int32) : Int32 := if st = 0 then (if ((ms >>> (w &&& 31)) &&& 1) = 1 then 6 else 4) else 5
theorem favour_c {a w : Nat} (hw : w < 4) : f_X8_favour M a (nI w) = some (tolS (gI M a 0) (gI M a 1) (nI w)) := by
  unfold f_X8_favour f_X8_means tolS
  rw [if_neg (nneg (show w < 2147483648 by omega))]
  split
  · split
    · rfl
    · rfl
  · rfl
theorem toldOf_r {w l : Nat} (h : RI M j D) (hl : l < 3) : f_X13_toldOf M 118 (nI w) (nI l) = some (tolS (D 28 l) (D 23 l) (nI w)) := by
  unfold f_X13_toldOf tolS
  simp only [h.j, oc_x, h.s.k44, h.s.k39, chk_m hl (by decide), ix_n (show l < 2147483648 by omega), h.d 28 l (by decide), h.d 23 l (by decide)]
  simp only [apply_ite (some : Int32 → Option Int32)]
theorem slopeAt_r {r k : Nat} (h : RI M j D) (hr : r < 3) (hk : k < 6) : f_X12_slopeAt M j (nI r) (nI k) = some (D 6 (6 * r + k)) := by
  unfold f_X12_slopeAt
  rw [h.s.k14, oc_x, show (6 : Int32) = nI 6 from rfl, pk_mul, nI_add, chk_n (show 6 * r + k < 18 by omega) (by decide), ix_n (by omega), h.d 6 _ (by decide)]
theorem canBy_r {w t : Nat} {s : Int32} (h : RI M j D) (hw : w < 4) (ht : t < 10) : f_X13_canBy M 118 (nI w) (nI t) s = some (canS (D 1 w) (D 7 t) (D 8 t) (D 9 t) s) := by
  unfold f_X13_canBy
  simp only [h.j, oc_x, h.s.k9, h.s.k15, h.s.k16, h.s.k17, chk_m hw (by decide), chk_m ht (by decide), ix_n (show w < 2147483648 by omega), ix_n (show t < 2147483648 by omega), h.d 1 w (by decide), h.d 7 t (by decide), h.d 8 t (by decide), h.d 9 t (by decide), canGo_r, ob_s]
end REF
