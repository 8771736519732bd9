/-! pure: edges and corners -/
/-- the point of a cell, by its coordinates from 0; none outside the room -/
def gV (V : Nat → Bool) (x y z : Int) : Bool := decide ((0 ≤ x ∧ x < 15) ∧ (0 ≤ y ∧ y < 15) ∧ (0 ≤ z ∧ z < 15)) && V (225 * z + 15 * y + x).toNat
def gq (a b : Bool) : Nat := if (a && !b) = true then 1 else 0
def Dq (q : Nat) (x y z : Int) : Bool := decide ((↑(q % 15) : Int) = x ∧ (↑(q / 15 % 15) : Int) = y ∧ (↑(q / 225) : Int) = z)
def f4 (o : Int32) (a b c d : Bool) : Bool := if o = 0 then (a || b || c || d) && !(a && b && c && d) else (a ^^ b) && (b ^^ c) && (c ^^ d)
section GV
variable {V : Nat → Bool}
theorem gV_out {x y z : Int} (h : ¬ ((0 ≤ x ∧ x < 15) ∧ (0 ≤ y ∧ y < 15) ∧ (0 ≤ z ∧ z < 15))) : gV V x y z = false := by
  unfold gV
  rw [decide_eq_false h, Bool.false_and]
theorem gV_in {x y z : Int} {k : Nat} (h : (0 ≤ x ∧ x < 15) ∧ (0 ≤ y ∧ y < 15) ∧ (0 ≤ z ∧ z < 15)) (hk : (↑k : Int) = 225 * z + 15 * y + x) : gV V x y z = V k := by
  unfold gV
  rw [decide_eq_true h, Bool.true_and, ← hk]
  rfl
theorem bt_gV {y z : Int} {i : Nat} (hi : i < 32) : bt (rwA (rwI V) y z) i = gV V ((↑i : Int) - 1) (y + 7) (z + 7) := by
  unfold rwA
  by_cases h : (-7 ≤ y ∧ y ≤ 7) ∧ (-7 ≤ z ∧ z ≤ 7)
  · rw [if_pos h, bt_rwI hi]
    by_cases h2 : 1 ≤ i ∧ i ≤ 15
    · rw [decide_eq_true h2, Bool.true_and]
      exact (gV_in (by omega) (by omega)).symm
    · rw [decide_eq_false h2, Bool.false_and, gV_out (by omega)]
  · rw [if_neg h, b_0, gV_out (by omega)]
theorem bs_gV {y z : Int} {i : Nat} (hi : i < 31) : bt (rwA (rwI V) y z >>> ((1 : Int32) &&& 31)) i = gV V (↑i : Int) (y + 7) (z + 7) := by
  rw [b_shr1 (lo_rwA (fun q _ => lo_rwI)) (by omega), bt_gV (by omega)]
  congr 1
  omega
theorem V_gV {k : Nat} (h : k < 3375) : V k = gV V (↑(k % 15) : Int) (↑(k / 15 % 15) : Int) (↑(k / 225) : Int) := (gV_in (by omega) (by omega)).symm
theorem cn_pt {n N : Nat} {b : Bool} (h : n < N) : cn (fun q => b && decide (q = n)) N = if b = true then 1 else 0 := by
  cases b
  · rw [cn_cong (q := fun _ => false) (fun _ _ => Bool.false_and _), cn_zero]
    rfl
  · have e := cn_add1 (p := fun _ => false) (q := fun q => true && decide (q = n)) (x := n) rfl (fun k => by rw [Bool.true_and, Bool.false_or]) N
    rw [e, cn_zero, if_pos h]
    rfl
theorem hs_g0 {k : Nat} (h : k < 3375) : hs V k 0 = gV V ((↑(k % 15) : Int) - 1) (↑(k / 15 % 15) : Int) (↑(k / 225) : Int) := by
  unfold hs
  rw [sv0]
  by_cases g : 0 < k % 15
  · rw [if_pos g, decide_eq_true (by omega), Bool.true_and]
    exact (gV_in (by omega) (by omega)).symm
  · rw [if_neg g, decide_eq_false (by omega), Bool.false_and, gV_out (by omega)]
theorem pick0 {x y z : Int} : cn (fun q => (V q && !hs V q 0) && Dq q x y z) 3375 = gq (gV V x y z) (gV V (x - 1) y z) := by
  by_cases h : (0 ≤ x ∧ x < 15) ∧ (0 ≤ y ∧ y < 15) ∧ (0 ≤ z ∧ z < 15)
  · have hn : (225 * z + 15 * y + x).toNat < 3375 := by omega
    rw [cn_cong (q := fun q => (gV V x y z && !gV V (x - 1) y z) && decide (q = (225 * z + 15 * y + x).toNat)) (fun q hq => ?_), cn_pt hn]
    · rfl
    · unfold Dq
      by_cases g : (↑(q % 15) : Int) = x ∧ (↑(q / 15 % 15) : Int) = y ∧ (↑(q / 225) : Int) = z
      · rw [decide_eq_true g, decide_eq_true (by omega), V_gV (V := V) hq, hs_g0 hq, g.1, g.2.1, g.2.2]
      · rw [decide_eq_false g, decide_eq_false (by omega), Bool.and_false, Bool.and_false]
  · rw [cn_cong (q := fun _ => false) (fun q hq => ?_), cn_zero, gV_out h]
    · rfl
    · unfold Dq
      rw [decide_eq_false (by omega), Bool.and_false]
theorem hs_g1 {k : Nat} (h : k < 3375) : hs V k 1 = gV V ((↑(k % 15) : Int) + 1) (↑(k / 15 % 15) : Int) (↑(k / 225) : Int) := by
  unfold hs
  rw [sv1]
  by_cases g : k % 15 < 14
  · rw [if_pos g, decide_eq_true (by omega), Bool.true_and]
    exact (gV_in (by omega) (by omega)).symm
  · rw [if_neg g, decide_eq_false (by omega), Bool.false_and, gV_out (by omega)]
theorem pick1 {x y z : Int} : cn (fun q => (V q && !hs V q 1) && Dq q x y z) 3375 = gq (gV V x y z) (gV V (x + 1) y z) := by
  by_cases h : (0 ≤ x ∧ x < 15) ∧ (0 ≤ y ∧ y < 15) ∧ (0 ≤ z ∧ z < 15)
  · have hn : (225 * z + 15 * y + x).toNat < 3375 := by omega
    rw [cn_cong (q := fun q => (gV V x y z && !gV V (x + 1) y z) && decide (q = (225 * z + 15 * y + x).toNat)) (fun q hq => ?_), cn_pt hn]
    · rfl
    · unfold Dq
      by_cases g : (↑(q % 15) : Int) = x ∧ (↑(q / 15 % 15) : Int) = y ∧ (↑(q / 225) : Int) = z
      · rw [decide_eq_true g, decide_eq_true (by omega), V_gV (V := V) hq, hs_g1 hq, g.1, g.2.1, g.2.2]
      · rw [decide_eq_false g, decide_eq_false (by omega), Bool.and_false, Bool.and_false]
  · rw [cn_cong (q := fun _ => false) (fun q hq => ?_), cn_zero, gV_out h]
    · rfl
    · unfold Dq
      rw [decide_eq_false (by omega), Bool.and_false]
theorem hs_g2 {k : Nat} (h : k < 3375) : hs V k 2 = gV V (↑(k % 15) : Int) ((↑(k / 15 % 15) : Int) - 1) (↑(k / 225) : Int) := by
  unfold hs
  rw [sv2]
  by_cases g : 0 < k / 15 % 15
  · rw [if_pos g, decide_eq_true (by omega), Bool.true_and]
    exact (gV_in (by omega) (by omega)).symm
  · rw [if_neg g, decide_eq_false (by omega), Bool.false_and, gV_out (by omega)]
theorem pick2 {x y z : Int} : cn (fun q => (V q && !hs V q 2) && Dq q x y z) 3375 = gq (gV V x y z) (gV V x (y - 1) z) := by
  by_cases h : (0 ≤ x ∧ x < 15) ∧ (0 ≤ y ∧ y < 15) ∧ (0 ≤ z ∧ z < 15)
  · have hn : (225 * z + 15 * y + x).toNat < 3375 := by omega
    rw [cn_cong (q := fun q => (gV V x y z && !gV V x (y - 1) z) && decide (q = (225 * z + 15 * y + x).toNat)) (fun q hq => ?_), cn_pt hn]
    · rfl
    · unfold Dq
      by_cases g : (↑(q % 15) : Int) = x ∧ (↑(q / 15 % 15) : Int) = y ∧ (↑(q / 225) : Int) = z
      · rw [decide_eq_true g, decide_eq_true (by omega), V_gV (V := V) hq, hs_g2 hq, g.1, g.2.1, g.2.2]
      · rw [decide_eq_false g, decide_eq_false (by omega), Bool.and_false, Bool.and_false]
  · rw [cn_cong (q := fun _ => false) (fun q hq => ?_), cn_zero, gV_out h]
    · rfl
    · unfold Dq
      rw [decide_eq_false (by omega), Bool.and_false]
theorem hs_g3 {k : Nat} (h : k < 3375) : hs V k 3 = gV V (↑(k % 15) : Int) ((↑(k / 15 % 15) : Int) + 1) (↑(k / 225) : Int) := by
  unfold hs
  rw [sv3]
  by_cases g : k / 15 % 15 < 14
  · rw [if_pos g, decide_eq_true (by omega), Bool.true_and]
    exact (gV_in (by omega) (by omega)).symm
  · rw [if_neg g, decide_eq_false (by omega), Bool.false_and, gV_out (by omega)]
theorem pick3 {x y z : Int} : cn (fun q => (V q && !hs V q 3) && Dq q x y z) 3375 = gq (gV V x y z) (gV V x (y + 1) z) := by
  by_cases h : (0 ≤ x ∧ x < 15) ∧ (0 ≤ y ∧ y < 15) ∧ (0 ≤ z ∧ z < 15)
  · have hn : (225 * z + 15 * y + x).toNat < 3375 := by omega
    rw [cn_cong (q := fun q => (gV V x y z && !gV V x (y + 1) z) && decide (q = (225 * z + 15 * y + x).toNat)) (fun q hq => ?_), cn_pt hn]
    · rfl
    · unfold Dq
      by_cases g : (↑(q % 15) : Int) = x ∧ (↑(q / 15 % 15) : Int) = y ∧ (↑(q / 225) : Int) = z
      · rw [decide_eq_true g, decide_eq_true (by omega), V_gV (V := V) hq, hs_g3 hq, g.1, g.2.1, g.2.2]
      · rw [decide_eq_false g, decide_eq_false (by omega), Bool.and_false, Bool.and_false]
  · rw [cn_cong (q := fun _ => false) (fun q hq => ?_), cn_zero, gV_out h]
    · rfl
    · unfold Dq
      rw [decide_eq_false (by omega), Bool.and_false]
theorem hs_g4 {k : Nat} (h : k < 3375) : hs V k 4 = gV V (↑(k % 15) : Int) (↑(k / 15 % 15) : Int) ((↑(k / 225) : Int) - 1) := by
  unfold hs
  rw [sv4]
  by_cases g : 0 < k / 225
  · rw [if_pos g, decide_eq_true (by omega), Bool.true_and]
    exact (gV_in (by omega) (by omega)).symm
  · rw [if_neg g, decide_eq_false (by omega), Bool.false_and, gV_out (by omega)]
theorem pick4 {x y z : Int} : cn (fun q => (V q && !hs V q 4) && Dq q x y z) 3375 = gq (gV V x y z) (gV V x y (z - 1)) := by
  by_cases h : (0 ≤ x ∧ x < 15) ∧ (0 ≤ y ∧ y < 15) ∧ (0 ≤ z ∧ z < 15)
  · have hn : (225 * z + 15 * y + x).toNat < 3375 := by omega
    rw [cn_cong (q := fun q => (gV V x y z && !gV V x y (z - 1)) && decide (q = (225 * z + 15 * y + x).toNat)) (fun q hq => ?_), cn_pt hn]
    · rfl
    · unfold Dq
      by_cases g : (↑(q % 15) : Int) = x ∧ (↑(q / 15 % 15) : Int) = y ∧ (↑(q / 225) : Int) = z
      · rw [decide_eq_true g, decide_eq_true (by omega), V_gV (V := V) hq, hs_g4 hq, g.1, g.2.1, g.2.2]
      · rw [decide_eq_false g, decide_eq_false (by omega), Bool.and_false, Bool.and_false]
  · rw [cn_cong (q := fun _ => false) (fun q hq => ?_), cn_zero, gV_out h]
    · rfl
    · unfold Dq
      rw [decide_eq_false (by omega), Bool.and_false]
theorem hs_g5 {k : Nat} (h : k < 3375) : hs V k 5 = gV V (↑(k % 15) : Int) (↑(k / 15 % 15) : Int) ((↑(k / 225) : Int) + 1) := by
  unfold hs
  rw [sv5]
  by_cases g : k / 225 < 14
  · rw [if_pos g, decide_eq_true (by omega), Bool.true_and]
    exact (gV_in (by omega) (by omega)).symm
  · rw [if_neg g, decide_eq_false (by omega), Bool.false_and, gV_out (by omega)]
theorem pick5 {x y z : Int} : cn (fun q => (V q && !hs V q 5) && Dq q x y z) 3375 = gq (gV V x y z) (gV V x y (z + 1)) := by
  by_cases h : (0 ≤ x ∧ x < 15) ∧ (0 ≤ y ∧ y < 15) ∧ (0 ≤ z ∧ z < 15)
  · have hn : (225 * z + 15 * y + x).toNat < 3375 := by omega
    rw [cn_cong (q := fun q => (gV V x y z && !gV V x y (z + 1)) && decide (q = (225 * z + 15 * y + x).toNat)) (fun q hq => ?_), cn_pt hn]
    · rfl
    · unfold Dq
      by_cases g : (↑(q % 15) : Int) = x ∧ (↑(q / 15 % 15) : Int) = y ∧ (↑(q / 225) : Int) = z
      · rw [decide_eq_true g, decide_eq_true (by omega), V_gV (V := V) hq, hs_g5 hq, g.1, g.2.1, g.2.2]
      · rw [decide_eq_false g, decide_eq_false (by omega), Bool.and_false, Bool.and_false]
  · rw [cn_cong (q := fun _ => false) (fun q hq => ?_), cn_zero, gV_out h]
    · rfl
    · unfold Dq
      rw [decide_eq_false (by omega), Bool.and_false]
theorem and_or2 (a b c : Bool) : (a && (b || c)) = ((a && b) || (a && c)) := by cases a <;> rfl
theorem Dq_dj {q : Nat} {x y z x2 y2 z2 : Int} {a : Bool} (h : ¬ (x = x2 ∧ y = y2 ∧ z = z2)) : ¬ ((a && Dq q x y z) = true ∧ (a && Dq q x2 y2 z2) = true) := fun g => by
  unfold Dq at g
  rw [Bool.and_eq_true, Bool.and_eq_true, decide_eq_true_iff, decide_eq_true_iff] at g
  omega
theorem cn_D2 {A : Nat → Bool} {x y z x2 y2 z2 : Int} (h : ¬ (x = x2 ∧ y = y2 ∧ z = z2)) : cn (fun q => A q && (Dq q x y z || Dq q x2 y2 z2)) 3375 = cn (fun q => A q && Dq q x y z) 3375 + cn (fun q => A q && Dq q x2 y2 z2) 3375 := by
  rw [← cn_disj (p := fun q => A q && Dq q x y z) (q := fun q => A q && Dq q x2 y2 z2) (fun k _ => Dq_dj h)]
  exact cn_cong (fun q _ => and_or2 _ _ _)
theorem cn_D4 {A : Nat → Bool} {x y z x2 y2 z2 x3 y3 z3 x4 y4 z4 : Int} (h : ¬ (x = x2 ∧ y = y2 ∧ z = z2)) (h2 : ¬ (x3 = x4 ∧ y3 = y4 ∧ z3 = z4)) (h13 : ¬ (x = x3 ∧ y = y3 ∧ z = z3)) (h14 : ¬ (x = x4 ∧ y = y4 ∧ z = z4)) (h23 : ¬ (x2 = x3 ∧ y2 = y3 ∧ z2 = z3)) (h24 : ¬ (x2 = x4 ∧ y2 = y4 ∧ z2 = z4)) : cn (fun q => A q && ((Dq q x y z || Dq q x2 y2 z2) || (Dq q x3 y3 z3 || Dq q x4 y4 z4))) 3375 = (cn (fun q => A q && Dq q x y z) 3375 + cn (fun q => A q && Dq q x2 y2 z2) 3375) + (cn (fun q => A q && Dq q x3 y3 z3) 3375 + cn (fun q => A q && Dq q x4 y4 z4) 3375) := by
  rw [← cn_D2 h, ← cn_D2 h2, ← cn_disj (p := fun q => A q && (Dq q x y z || Dq q x2 y2 z2)) (q := fun q => A q && (Dq q x3 y3 z3 || Dq q x4 y4 z4)) (fun k _ g => ?_)]
  · exact cn_cong (fun q _ => and_or2 _ _ _)
  · unfold Dq at g
    simp only [Bool.and_eq_true, Bool.or_eq_true, decide_eq_true_iff] at g
    omega
theorem cn_w6 {P : Nat → Bool} : cn P 20250 = cn (fun q => P (6 * q + 0)) 3375 + cn (fun q => P (6 * q + 1)) 3375 + (cn (fun q => P (6 * q + 2)) 3375 + cn (fun q => P (6 * q + 3)) 3375) + (cn (fun q => P (6 * q + 4)) 3375 + cn (fun q => P (6 * q + 5)) 3375) := by
  have h := cn_sm (P := P) (w := 6) 3375
  rw [show 6 * 3375 = 20250 from rfl] at h
  rw [h]
  have e : sm (fun q => cn (fun j => P (6 * q + j)) 6) 3375 = sm (fun q => (if P (6 * q + 0) = true then 1 else 0) + (if P (6 * q + 1) = true then 1 else 0) + ((if P (6 * q + 2) = true then 1 else 0) + (if P (6 * q + 3) = true then 1 else 0)) + ((if P (6 * q + 4) = true then 1 else 0) + (if P (6 * q + 5) = true then 1 else 0))) 3375 := by
    refine sm_cong (fun q hq => ?_)
    show 0 + (if P (6 * q + 0) = true then 1 else 0) + (if P (6 * q + 1) = true then 1 else 0) + (if P (6 * q + 2) = true then 1 else 0) + (if P (6 * q + 3) = true then 1 else 0) + (if P (6 * q + 4) = true then 1 else 0) + (if P (6 * q + 5) = true then 1 else 0) = _
    omega
  rw [e]
  simp only [sm_plus]
  rw [← cn_sm1 (p := fun q => P (6 * q + 0)), ← cn_sm1 (p := fun q => P (6 * q + 1)), ← cn_sm1 (p := fun q => P (6 * q + 2)), ← cn_sm1 (p := fun q => P (6 * q + 3)), ← cn_sm1 (p := fun q => P (6 * q + 4)), ← cn_sm1 (p := fun q => P (6 * q + 5))]
def eP (V : Nat → Bool) (T : Nat → Nat → Nat → Nat → Nat → Bool) (j i : Nat) : Bool := (V (i / 6) && !hs V (i / 6) (i % 6)) && T (eX (i / 6) (i % 6)) (eY (i / 6) (i % 6)) (eZ (i / 6) (i % 6)) (i % 6 / 2) j
theorem eP_w {T : Nat → Nat → Nat → Nat → Nat → Bool} {j q w : Nat} (hw : w < 6) : eP V T j (6 * q + w) = ((V q && !hs V q w) && T (eX q w) (eY q w) (eZ q w) (w / 2) j) := by
  unfold eP
  rw [(dm6 hw).1, (dm6 hw).2]
theorem te00 {q x y z : Nat} (hq : q < 3375) (hx : x < 16) (hy : y < 16) (hz : z < 16) : tE (eX q 0) (eY q 0) (eZ q 0) (0 / 2) (4096 * 0 + (256 * z + 16 * y + x)) = false := by
  rw [Bool.eq_false_iff]
  unfold tE eX eY eZ
  simp only [Nat.reduceDiv, Nat.reduceMod, Nat.reduceEqDiff, if_true, if_false, Bool.or_eq_true, beq_iff_eq, ne_eq, Nat.reduceMul]
  have ha : q % 15 < 15 := by omega
  have hb : q / 15 % 15 < 15 := by omega
  have hc : q / 225 < 15 := by omega
  generalize q % 15 = a at *
  generalize q / 15 % 15 = b at *
  generalize q / 225 = c at *
  clear hq
  omega
theorem te01 {q x y z : Nat} (hq : q < 3375) (hx : x < 16) (hy : y < 16) (hz : z < 16) : tE (eX q 1) (eY q 1) (eZ q 1) (1 / 2) (4096 * 0 + (256 * z + 16 * y + x)) = false := by
  rw [Bool.eq_false_iff]
  unfold tE eX eY eZ
  simp only [Nat.reduceDiv, Nat.reduceMod, Nat.reduceEqDiff, if_true, if_false, Bool.or_eq_true, beq_iff_eq, ne_eq, Nat.reduceMul]
  have ha : q % 15 < 15 := by omega
  have hb : q / 15 % 15 < 15 := by omega
  have hc : q / 225 < 15 := by omega
  generalize q % 15 = a at *
  generalize q / 15 % 15 = b at *
  generalize q / 225 = c at *
  clear hq
  omega
theorem te02 {q x y z : Nat} (hq : q < 3375) (hx : x < 16) (hy : y < 16) (hz : z < 16) : tE (eX q 2) (eY q 2) (eZ q 2) (2 / 2) (4096 * 0 + (256 * z + 16 * y + x)) = (Dq q (↑x : Int) (↑y : Int) (↑z : Int) || Dq q (↑x : Int) (↑y : Int) (↑z - 1 : Int)) := by
  rw [Bool.eq_iff_iff]
  unfold tE eX eY eZ Dq
  simp only [Nat.reduceDiv, Nat.reduceMod, Nat.reduceEqDiff, if_true, if_false, Bool.or_eq_true, beq_iff_eq, decide_eq_true_iff, ne_eq, Nat.reduceMul]
  have ha : q % 15 < 15 := by omega
  have hb : q / 15 % 15 < 15 := by omega
  have hc : q / 225 < 15 := by omega
  generalize q % 15 = a at *
  generalize q / 15 % 15 = b at *
  generalize q / 225 = c at *
  clear hq
  omega
theorem te03 {q x y z : Nat} (hq : q < 3375) (hx : x < 16) (hy : y < 16) (hz : z < 16) : tE (eX q 3) (eY q 3) (eZ q 3) (3 / 2) (4096 * 0 + (256 * z + 16 * y + x)) = (Dq q (↑x : Int) (↑y - 1 : Int) (↑z : Int) || Dq q (↑x : Int) (↑y - 1 : Int) (↑z - 1 : Int)) := by
  rw [Bool.eq_iff_iff]
  unfold tE eX eY eZ Dq
  simp only [Nat.reduceDiv, Nat.reduceMod, Nat.reduceEqDiff, if_true, if_false, Bool.or_eq_true, beq_iff_eq, decide_eq_true_iff, ne_eq, Nat.reduceMul]
  have ha : q % 15 < 15 := by omega
  have hb : q / 15 % 15 < 15 := by omega
  have hc : q / 225 < 15 := by omega
  generalize q % 15 = a at *
  generalize q / 15 % 15 = b at *
  generalize q / 225 = c at *
  clear hq
  omega
theorem te04 {q x y z : Nat} (hq : q < 3375) (hx : x < 16) (hy : y < 16) (hz : z < 16) : tE (eX q 4) (eY q 4) (eZ q 4) (4 / 2) (4096 * 0 + (256 * z + 16 * y + x)) = (Dq q (↑x : Int) (↑y : Int) (↑z : Int) || Dq q (↑x : Int) (↑y - 1 : Int) (↑z : Int)) := by
  rw [Bool.eq_iff_iff]
  unfold tE eX eY eZ Dq
  simp only [Nat.reduceDiv, Nat.reduceMod, Nat.reduceEqDiff, if_true, if_false, Bool.or_eq_true, beq_iff_eq, decide_eq_true_iff, ne_eq, Nat.reduceMul]
  have ha : q % 15 < 15 := by omega
  have hb : q / 15 % 15 < 15 := by omega
  have hc : q / 225 < 15 := by omega
  generalize q % 15 = a at *
  generalize q / 15 % 15 = b at *
  generalize q / 225 = c at *
  clear hq
  omega
theorem te05 {q x y z : Nat} (hq : q < 3375) (hx : x < 16) (hy : y < 16) (hz : z < 16) : tE (eX q 5) (eY q 5) (eZ q 5) (5 / 2) (4096 * 0 + (256 * z + 16 * y + x)) = (Dq q (↑x : Int) (↑y : Int) (↑z - 1 : Int) || Dq q (↑x : Int) (↑y - 1 : Int) (↑z - 1 : Int)) := by
  rw [Bool.eq_iff_iff]
  unfold tE eX eY eZ Dq
  simp only [Nat.reduceDiv, Nat.reduceMod, Nat.reduceEqDiff, if_true, if_false, Bool.or_eq_true, beq_iff_eq, decide_eq_true_iff, ne_eq, Nat.reduceMul]
  have ha : q % 15 < 15 := by omega
  have hb : q / 15 % 15 < 15 := by omega
  have hc : q / 225 < 15 := by omega
  generalize q % 15 = a at *
  generalize q / 15 % 15 = b at *
  generalize q / 225 = c at *
  clear hq
  omega
theorem sE0 {x y z : Nat} (hx : x < 16) (hy : y < 16) (hz : z < 16) (o : Int32) : (if o = 0 then decide (0 < cn (eP V tE (4096 * 0 + (256 * z + 16 * y + x))) 20250) else decide (cn (eP V tE (4096 * 0 + (256 * z + 16 * y + x))) 20250 = 4)) = f4 o (gV V (↑x : Int) (↑y - 1 : Int) (↑z - 1 : Int)) (gV V (↑x : Int) (↑y : Int) (↑z - 1 : Int)) (gV V (↑x : Int) (↑y : Int) (↑z : Int)) (gV V (↑x : Int) (↑y - 1 : Int) (↑z : Int)) := by
  have e : cn (eP V tE (4096 * 0 + (256 * z + 16 * y + x))) 20250 = (0) + (0) + ((gq (gV V (↑x : Int) (↑y : Int) (↑z : Int)) (gV V ((↑x : Int)) ((↑y : Int) - 1) ((↑z : Int))) + gq (gV V (↑x : Int) (↑y : Int) (↑z - 1 : Int)) (gV V ((↑x : Int)) ((↑y : Int) - 1) ((↑z - 1 : Int)))) + (gq (gV V (↑x : Int) (↑y - 1 : Int) (↑z : Int)) (gV V ((↑x : Int)) ((↑y - 1 : Int) + 1) ((↑z : Int))) + gq (gV V (↑x : Int) (↑y - 1 : Int) (↑z - 1 : Int)) (gV V ((↑x : Int)) ((↑y - 1 : Int) + 1) ((↑z - 1 : Int))))) + ((gq (gV V (↑x : Int) (↑y : Int) (↑z : Int)) (gV V ((↑x : Int)) ((↑y : Int)) ((↑z : Int) - 1)) + gq (gV V (↑x : Int) (↑y - 1 : Int) (↑z : Int)) (gV V ((↑x : Int)) ((↑y - 1 : Int)) ((↑z : Int) - 1))) + (gq (gV V (↑x : Int) (↑y : Int) (↑z - 1 : Int)) (gV V ((↑x : Int)) ((↑y : Int)) ((↑z - 1 : Int) + 1)) + gq (gV V (↑x : Int) (↑y - 1 : Int) (↑z - 1 : Int)) (gV V ((↑x : Int)) ((↑y - 1 : Int)) ((↑z - 1 : Int) + 1)))) := by
    rw [cn_w6]
    rw [cn_cong (p := fun q => eP V tE (4096 * 0 + (256 * z + 16 * y + x)) (6 * q + 0)) (q := fun _ => false) (fun q hq => by rw [eP_w (by omega), te00 hq hx hy hz, Bool.and_false]), cn_zero]
    rw [cn_cong (p := fun q => eP V tE (4096 * 0 + (256 * z + 16 * y + x)) (6 * q + 1)) (q := fun _ => false) (fun q hq => by rw [eP_w (by omega), te01 hq hx hy hz, Bool.and_false]), cn_zero]
    rw [cn_cong (p := fun q => eP V tE (4096 * 0 + (256 * z + 16 * y + x)) (6 * q + 2)) (q := fun q => (V q && !hs V q 2) && (Dq q (↑x : Int) (↑y : Int) (↑z : Int) || Dq q (↑x : Int) (↑y : Int) (↑z - 1 : Int))) (fun q hq => by rw [eP_w (by omega), te02 hq hx hy hz]), cn_D2 (by omega), pick2, pick2]
    rw [cn_cong (p := fun q => eP V tE (4096 * 0 + (256 * z + 16 * y + x)) (6 * q + 3)) (q := fun q => (V q && !hs V q 3) && (Dq q (↑x : Int) (↑y - 1 : Int) (↑z : Int) || Dq q (↑x : Int) (↑y - 1 : Int) (↑z - 1 : Int))) (fun q hq => by rw [eP_w (by omega), te03 hq hx hy hz]), cn_D2 (by omega), pick3, pick3]
    rw [cn_cong (p := fun q => eP V tE (4096 * 0 + (256 * z + 16 * y + x)) (6 * q + 4)) (q := fun q => (V q && !hs V q 4) && (Dq q (↑x : Int) (↑y : Int) (↑z : Int) || Dq q (↑x : Int) (↑y - 1 : Int) (↑z : Int))) (fun q hq => by rw [eP_w (by omega), te04 hq hx hy hz]), cn_D2 (by omega), pick4, pick4]
    rw [cn_cong (p := fun q => eP V tE (4096 * 0 + (256 * z + 16 * y + x)) (6 * q + 5)) (q := fun q => (V q && !hs V q 5) && (Dq q (↑x : Int) (↑y : Int) (↑z - 1 : Int) || Dq q (↑x : Int) (↑y - 1 : Int) (↑z - 1 : Int))) (fun q hq => by rw [eP_w (by omega), te05 hq hx hy hz]), cn_D2 (by omega), pick5, pick5]
  rw [e]
  simp only [Int.sub_add_cancel]
  generalize gV V (↑x : Int) (↑y - 1 : Int) (↑z - 1 : Int) = c1
  generalize gV V (↑x : Int) (↑y : Int) (↑z - 1 : Int) = c2
  generalize gV V (↑x : Int) (↑y : Int) (↑z : Int) = c3
  generalize gV V (↑x : Int) (↑y - 1 : Int) (↑z : Int) = c4
  unfold f4
  by_cases ho : o = 0
  · rw [if_pos ho, if_pos ho]
    revert c1 c2 c3 c4
    decide
  · rw [if_neg ho, if_neg ho]
    revert c1 c2 c3 c4
    decide
theorem te10 {q x y z : Nat} (hq : q < 3375) (hx : x < 16) (hy : y < 16) (hz : z < 16) : tE (eX q 0) (eY q 0) (eZ q 0) (0 / 2) (4096 * 1 + (256 * z + 16 * y + x)) = (Dq q (↑x : Int) (↑y : Int) (↑z : Int) || Dq q (↑x : Int) (↑y : Int) (↑z - 1 : Int)) := by
  rw [Bool.eq_iff_iff]
  unfold tE eX eY eZ Dq
  simp only [Nat.reduceDiv, Nat.reduceMod, Nat.reduceEqDiff, if_true, if_false, Bool.or_eq_true, beq_iff_eq, decide_eq_true_iff, ne_eq, Nat.reduceMul]
  have ha : q % 15 < 15 := by omega
  have hb : q / 15 % 15 < 15 := by omega
  have hc : q / 225 < 15 := by omega
  generalize q % 15 = a at *
  generalize q / 15 % 15 = b at *
  generalize q / 225 = c at *
  clear hq
  omega
theorem te11 {q x y z : Nat} (hq : q < 3375) (hx : x < 16) (hy : y < 16) (hz : z < 16) : tE (eX q 1) (eY q 1) (eZ q 1) (1 / 2) (4096 * 1 + (256 * z + 16 * y + x)) = (Dq q (↑x - 1 : Int) (↑y : Int) (↑z : Int) || Dq q (↑x - 1 : Int) (↑y : Int) (↑z - 1 : Int)) := by
  rw [Bool.eq_iff_iff]
  unfold tE eX eY eZ Dq
  simp only [Nat.reduceDiv, Nat.reduceMod, Nat.reduceEqDiff, if_true, if_false, Bool.or_eq_true, beq_iff_eq, decide_eq_true_iff, ne_eq, Nat.reduceMul]
  have ha : q % 15 < 15 := by omega
  have hb : q / 15 % 15 < 15 := by omega
  have hc : q / 225 < 15 := by omega
  generalize q % 15 = a at *
  generalize q / 15 % 15 = b at *
  generalize q / 225 = c at *
  clear hq
  omega
theorem te12 {q x y z : Nat} (hq : q < 3375) (hx : x < 16) (hy : y < 16) (hz : z < 16) : tE (eX q 2) (eY q 2) (eZ q 2) (2 / 2) (4096 * 1 + (256 * z + 16 * y + x)) = false := by
  rw [Bool.eq_false_iff]
  unfold tE eX eY eZ
  simp only [Nat.reduceDiv, Nat.reduceMod, Nat.reduceEqDiff, if_true, if_false, Bool.or_eq_true, beq_iff_eq, ne_eq, Nat.reduceMul]
  have ha : q % 15 < 15 := by omega
  have hb : q / 15 % 15 < 15 := by omega
  have hc : q / 225 < 15 := by omega
  generalize q % 15 = a at *
  generalize q / 15 % 15 = b at *
  generalize q / 225 = c at *
  clear hq
  omega
theorem te13 {q x y z : Nat} (hq : q < 3375) (hx : x < 16) (hy : y < 16) (hz : z < 16) : tE (eX q 3) (eY q 3) (eZ q 3) (3 / 2) (4096 * 1 + (256 * z + 16 * y + x)) = false := by
  rw [Bool.eq_false_iff]
  unfold tE eX eY eZ
  simp only [Nat.reduceDiv, Nat.reduceMod, Nat.reduceEqDiff, if_true, if_false, Bool.or_eq_true, beq_iff_eq, ne_eq, Nat.reduceMul]
  have ha : q % 15 < 15 := by omega
  have hb : q / 15 % 15 < 15 := by omega
  have hc : q / 225 < 15 := by omega
  generalize q % 15 = a at *
  generalize q / 15 % 15 = b at *
  generalize q / 225 = c at *
  clear hq
  omega
theorem te14 {q x y z : Nat} (hq : q < 3375) (hx : x < 16) (hy : y < 16) (hz : z < 16) : tE (eX q 4) (eY q 4) (eZ q 4) (4 / 2) (4096 * 1 + (256 * z + 16 * y + x)) = (Dq q (↑x : Int) (↑y : Int) (↑z : Int) || Dq q (↑x - 1 : Int) (↑y : Int) (↑z : Int)) := by
  rw [Bool.eq_iff_iff]
  unfold tE eX eY eZ Dq
  simp only [Nat.reduceDiv, Nat.reduceMod, Nat.reduceEqDiff, if_true, if_false, Bool.or_eq_true, beq_iff_eq, decide_eq_true_iff, ne_eq, Nat.reduceMul]
  have ha : q % 15 < 15 := by omega
  have hb : q / 15 % 15 < 15 := by omega
  have hc : q / 225 < 15 := by omega
  generalize q % 15 = a at *
  generalize q / 15 % 15 = b at *
  generalize q / 225 = c at *
  clear hq
  omega
theorem te15 {q x y z : Nat} (hq : q < 3375) (hx : x < 16) (hy : y < 16) (hz : z < 16) : tE (eX q 5) (eY q 5) (eZ q 5) (5 / 2) (4096 * 1 + (256 * z + 16 * y + x)) = (Dq q (↑x : Int) (↑y : Int) (↑z - 1 : Int) || Dq q (↑x - 1 : Int) (↑y : Int) (↑z - 1 : Int)) := by
  rw [Bool.eq_iff_iff]
  unfold tE eX eY eZ Dq
  simp only [Nat.reduceDiv, Nat.reduceMod, Nat.reduceEqDiff, if_true, if_false, Bool.or_eq_true, beq_iff_eq, decide_eq_true_iff, ne_eq, Nat.reduceMul]
  have ha : q % 15 < 15 := by omega
  have hb : q / 15 % 15 < 15 := by omega
  have hc : q / 225 < 15 := by omega
  generalize q % 15 = a at *
  generalize q / 15 % 15 = b at *
  generalize q / 225 = c at *
  clear hq
  omega
theorem sE1 {x y z : Nat} (hx : x < 16) (hy : y < 16) (hz : z < 16) (o : Int32) : (if o = 0 then decide (0 < cn (eP V tE (4096 * 1 + (256 * z + 16 * y + x))) 20250) else decide (cn (eP V tE (4096 * 1 + (256 * z + 16 * y + x))) 20250 = 4)) = f4 o (gV V (↑x - 1 : Int) (↑y : Int) (↑z - 1 : Int)) (gV V (↑x : Int) (↑y : Int) (↑z - 1 : Int)) (gV V (↑x : Int) (↑y : Int) (↑z : Int)) (gV V (↑x - 1 : Int) (↑y : Int) (↑z : Int)) := by
  have e : cn (eP V tE (4096 * 1 + (256 * z + 16 * y + x))) 20250 = (gq (gV V (↑x : Int) (↑y : Int) (↑z : Int)) (gV V ((↑x : Int) - 1) ((↑y : Int)) ((↑z : Int))) + gq (gV V (↑x : Int) (↑y : Int) (↑z - 1 : Int)) (gV V ((↑x : Int) - 1) ((↑y : Int)) ((↑z - 1 : Int)))) + (gq (gV V (↑x - 1 : Int) (↑y : Int) (↑z : Int)) (gV V ((↑x - 1 : Int) + 1) ((↑y : Int)) ((↑z : Int))) + gq (gV V (↑x - 1 : Int) (↑y : Int) (↑z - 1 : Int)) (gV V ((↑x - 1 : Int) + 1) ((↑y : Int)) ((↑z - 1 : Int)))) + ((0) + (0)) + ((gq (gV V (↑x : Int) (↑y : Int) (↑z : Int)) (gV V ((↑x : Int)) ((↑y : Int)) ((↑z : Int) - 1)) + gq (gV V (↑x - 1 : Int) (↑y : Int) (↑z : Int)) (gV V ((↑x - 1 : Int)) ((↑y : Int)) ((↑z : Int) - 1))) + (gq (gV V (↑x : Int) (↑y : Int) (↑z - 1 : Int)) (gV V ((↑x : Int)) ((↑y : Int)) ((↑z - 1 : Int) + 1)) + gq (gV V (↑x - 1 : Int) (↑y : Int) (↑z - 1 : Int)) (gV V ((↑x - 1 : Int)) ((↑y : Int)) ((↑z - 1 : Int) + 1)))) := by
    rw [cn_w6]
    rw [cn_cong (p := fun q => eP V tE (4096 * 1 + (256 * z + 16 * y + x)) (6 * q + 0)) (q := fun q => (V q && !hs V q 0) && (Dq q (↑x : Int) (↑y : Int) (↑z : Int) || Dq q (↑x : Int) (↑y : Int) (↑z - 1 : Int))) (fun q hq => by rw [eP_w (by omega), te10 hq hx hy hz]), cn_D2 (by omega), pick0, pick0]
    rw [cn_cong (p := fun q => eP V tE (4096 * 1 + (256 * z + 16 * y + x)) (6 * q + 1)) (q := fun q => (V q && !hs V q 1) && (Dq q (↑x - 1 : Int) (↑y : Int) (↑z : Int) || Dq q (↑x - 1 : Int) (↑y : Int) (↑z - 1 : Int))) (fun q hq => by rw [eP_w (by omega), te11 hq hx hy hz]), cn_D2 (by omega), pick1, pick1]
    rw [cn_cong (p := fun q => eP V tE (4096 * 1 + (256 * z + 16 * y + x)) (6 * q + 2)) (q := fun _ => false) (fun q hq => by rw [eP_w (by omega), te12 hq hx hy hz, Bool.and_false]), cn_zero]
    rw [cn_cong (p := fun q => eP V tE (4096 * 1 + (256 * z + 16 * y + x)) (6 * q + 3)) (q := fun _ => false) (fun q hq => by rw [eP_w (by omega), te13 hq hx hy hz, Bool.and_false]), cn_zero]
    rw [cn_cong (p := fun q => eP V tE (4096 * 1 + (256 * z + 16 * y + x)) (6 * q + 4)) (q := fun q => (V q && !hs V q 4) && (Dq q (↑x : Int) (↑y : Int) (↑z : Int) || Dq q (↑x - 1 : Int) (↑y : Int) (↑z : Int))) (fun q hq => by rw [eP_w (by omega), te14 hq hx hy hz]), cn_D2 (by omega), pick4, pick4]
    rw [cn_cong (p := fun q => eP V tE (4096 * 1 + (256 * z + 16 * y + x)) (6 * q + 5)) (q := fun q => (V q && !hs V q 5) && (Dq q (↑x : Int) (↑y : Int) (↑z - 1 : Int) || Dq q (↑x - 1 : Int) (↑y : Int) (↑z - 1 : Int))) (fun q hq => by rw [eP_w (by omega), te15 hq hx hy hz]), cn_D2 (by omega), pick5, pick5]
  rw [e]
  simp only [Int.sub_add_cancel]
  generalize gV V (↑x - 1 : Int) (↑y : Int) (↑z - 1 : Int) = c1
  generalize gV V (↑x : Int) (↑y : Int) (↑z - 1 : Int) = c2
  generalize gV V (↑x : Int) (↑y : Int) (↑z : Int) = c3
  generalize gV V (↑x - 1 : Int) (↑y : Int) (↑z : Int) = c4
  unfold f4
  by_cases ho : o = 0
  · rw [if_pos ho, if_pos ho]
    revert c1 c2 c3 c4
    decide
  · rw [if_neg ho, if_neg ho]
    revert c1 c2 c3 c4
    decide
theorem te20 {q x y z : Nat} (hq : q < 3375) (hx : x < 16) (hy : y < 16) (hz : z < 16) : tE (eX q 0) (eY q 0) (eZ q 0) (0 / 2) (4096 * 2 + (256 * z + 16 * y + x)) = (Dq q (↑x : Int) (↑y : Int) (↑z : Int) || Dq q (↑x : Int) (↑y - 1 : Int) (↑z : Int)) := by
  rw [Bool.eq_iff_iff]
  unfold tE eX eY eZ Dq
  simp only [Nat.reduceDiv, Nat.reduceMod, Nat.reduceEqDiff, if_true, if_false, Bool.or_eq_true, beq_iff_eq, decide_eq_true_iff, ne_eq, Nat.reduceMul]
  have ha : q % 15 < 15 := by omega
  have hb : q / 15 % 15 < 15 := by omega
  have hc : q / 225 < 15 := by omega
  generalize q % 15 = a at *
  generalize q / 15 % 15 = b at *
  generalize q / 225 = c at *
  clear hq
  omega
theorem te21 {q x y z : Nat} (hq : q < 3375) (hx : x < 16) (hy : y < 16) (hz : z < 16) : tE (eX q 1) (eY q 1) (eZ q 1) (1 / 2) (4096 * 2 + (256 * z + 16 * y + x)) = (Dq q (↑x - 1 : Int) (↑y : Int) (↑z : Int) || Dq q (↑x - 1 : Int) (↑y - 1 : Int) (↑z : Int)) := by
  rw [Bool.eq_iff_iff]
  unfold tE eX eY eZ Dq
  simp only [Nat.reduceDiv, Nat.reduceMod, Nat.reduceEqDiff, if_true, if_false, Bool.or_eq_true, beq_iff_eq, decide_eq_true_iff, ne_eq, Nat.reduceMul]
  have ha : q % 15 < 15 := by omega
  have hb : q / 15 % 15 < 15 := by omega
  have hc : q / 225 < 15 := by omega
  generalize q % 15 = a at *
  generalize q / 15 % 15 = b at *
  generalize q / 225 = c at *
  clear hq
  omega
theorem te22 {q x y z : Nat} (hq : q < 3375) (hx : x < 16) (hy : y < 16) (hz : z < 16) : tE (eX q 2) (eY q 2) (eZ q 2) (2 / 2) (4096 * 2 + (256 * z + 16 * y + x)) = (Dq q (↑x : Int) (↑y : Int) (↑z : Int) || Dq q (↑x - 1 : Int) (↑y : Int) (↑z : Int)) := by
  rw [Bool.eq_iff_iff]
  unfold tE eX eY eZ Dq
  simp only [Nat.reduceDiv, Nat.reduceMod, Nat.reduceEqDiff, if_true, if_false, Bool.or_eq_true, beq_iff_eq, decide_eq_true_iff, ne_eq, Nat.reduceMul]
  have ha : q % 15 < 15 := by omega
  have hb : q / 15 % 15 < 15 := by omega
  have hc : q / 225 < 15 := by omega
  generalize q % 15 = a at *
  generalize q / 15 % 15 = b at *
  generalize q / 225 = c at *
  clear hq
  omega
theorem te23 {q x y z : Nat} (hq : q < 3375) (hx : x < 16) (hy : y < 16) (hz : z < 16) : tE (eX q 3) (eY q 3) (eZ q 3) (3 / 2) (4096 * 2 + (256 * z + 16 * y + x)) = (Dq q (↑x : Int) (↑y - 1 : Int) (↑z : Int) || Dq q (↑x - 1 : Int) (↑y - 1 : Int) (↑z : Int)) := by
  rw [Bool.eq_iff_iff]
  unfold tE eX eY eZ Dq
  simp only [Nat.reduceDiv, Nat.reduceMod, Nat.reduceEqDiff, if_true, if_false, Bool.or_eq_true, beq_iff_eq, decide_eq_true_iff, ne_eq, Nat.reduceMul]
  have ha : q % 15 < 15 := by omega
  have hb : q / 15 % 15 < 15 := by omega
  have hc : q / 225 < 15 := by omega
  generalize q % 15 = a at *
  generalize q / 15 % 15 = b at *
  generalize q / 225 = c at *
  clear hq
  omega
theorem te24 {q x y z : Nat} (hq : q < 3375) (hx : x < 16) (hy : y < 16) (hz : z < 16) : tE (eX q 4) (eY q 4) (eZ q 4) (4 / 2) (4096 * 2 + (256 * z + 16 * y + x)) = false := by
  rw [Bool.eq_false_iff]
  unfold tE eX eY eZ
  simp only [Nat.reduceDiv, Nat.reduceMod, Nat.reduceEqDiff, if_true, if_false, Bool.or_eq_true, beq_iff_eq, ne_eq, Nat.reduceMul]
  have ha : q % 15 < 15 := by omega
  have hb : q / 15 % 15 < 15 := by omega
  have hc : q / 225 < 15 := by omega
  generalize q % 15 = a at *
  generalize q / 15 % 15 = b at *
  generalize q / 225 = c at *
  clear hq
  omega
theorem te25 {q x y z : Nat} (hq : q < 3375) (hx : x < 16) (hy : y < 16) (hz : z < 16) : tE (eX q 5) (eY q 5) (eZ q 5) (5 / 2) (4096 * 2 + (256 * z + 16 * y + x)) = false := by
  rw [Bool.eq_false_iff]
  unfold tE eX eY eZ
  simp only [Nat.reduceDiv, Nat.reduceMod, Nat.reduceEqDiff, if_true, if_false, Bool.or_eq_true, beq_iff_eq, ne_eq, Nat.reduceMul]
  have ha : q % 15 < 15 := by omega
  have hb : q / 15 % 15 < 15 := by omega
  have hc : q / 225 < 15 := by omega
  generalize q % 15 = a at *
  generalize q / 15 % 15 = b at *
  generalize q / 225 = c at *
  clear hq
  omega
theorem sE2 {x y z : Nat} (hx : x < 16) (hy : y < 16) (hz : z < 16) (o : Int32) : (if o = 0 then decide (0 < cn (eP V tE (4096 * 2 + (256 * z + 16 * y + x))) 20250) else decide (cn (eP V tE (4096 * 2 + (256 * z + 16 * y + x))) 20250 = 4)) = f4 o (gV V (↑x - 1 : Int) (↑y - 1 : Int) (↑z : Int)) (gV V (↑x : Int) (↑y - 1 : Int) (↑z : Int)) (gV V (↑x : Int) (↑y : Int) (↑z : Int)) (gV V (↑x - 1 : Int) (↑y : Int) (↑z : Int)) := by
  have e : cn (eP V tE (4096 * 2 + (256 * z + 16 * y + x))) 20250 = (gq (gV V (↑x : Int) (↑y : Int) (↑z : Int)) (gV V ((↑x : Int) - 1) ((↑y : Int)) ((↑z : Int))) + gq (gV V (↑x : Int) (↑y - 1 : Int) (↑z : Int)) (gV V ((↑x : Int) - 1) ((↑y - 1 : Int)) ((↑z : Int)))) + (gq (gV V (↑x - 1 : Int) (↑y : Int) (↑z : Int)) (gV V ((↑x - 1 : Int) + 1) ((↑y : Int)) ((↑z : Int))) + gq (gV V (↑x - 1 : Int) (↑y - 1 : Int) (↑z : Int)) (gV V ((↑x - 1 : Int) + 1) ((↑y - 1 : Int)) ((↑z : Int)))) + ((gq (gV V (↑x : Int) (↑y : Int) (↑z : Int)) (gV V ((↑x : Int)) ((↑y : Int) - 1) ((↑z : Int))) + gq (gV V (↑x - 1 : Int) (↑y : Int) (↑z : Int)) (gV V ((↑x - 1 : Int)) ((↑y : Int) - 1) ((↑z : Int)))) + (gq (gV V (↑x : Int) (↑y - 1 : Int) (↑z : Int)) (gV V ((↑x : Int)) ((↑y - 1 : Int) + 1) ((↑z : Int))) + gq (gV V (↑x - 1 : Int) (↑y - 1 : Int) (↑z : Int)) (gV V ((↑x - 1 : Int)) ((↑y - 1 : Int) + 1) ((↑z : Int))))) + ((0) + (0)) := by
    rw [cn_w6]
    rw [cn_cong (p := fun q => eP V tE (4096 * 2 + (256 * z + 16 * y + x)) (6 * q + 0)) (q := fun q => (V q && !hs V q 0) && (Dq q (↑x : Int) (↑y : Int) (↑z : Int) || Dq q (↑x : Int) (↑y - 1 : Int) (↑z : Int))) (fun q hq => by rw [eP_w (by omega), te20 hq hx hy hz]), cn_D2 (by omega), pick0, pick0]
    rw [cn_cong (p := fun q => eP V tE (4096 * 2 + (256 * z + 16 * y + x)) (6 * q + 1)) (q := fun q => (V q && !hs V q 1) && (Dq q (↑x - 1 : Int) (↑y : Int) (↑z : Int) || Dq q (↑x - 1 : Int) (↑y - 1 : Int) (↑z : Int))) (fun q hq => by rw [eP_w (by omega), te21 hq hx hy hz]), cn_D2 (by omega), pick1, pick1]
    rw [cn_cong (p := fun q => eP V tE (4096 * 2 + (256 * z + 16 * y + x)) (6 * q + 2)) (q := fun q => (V q && !hs V q 2) && (Dq q (↑x : Int) (↑y : Int) (↑z : Int) || Dq q (↑x - 1 : Int) (↑y : Int) (↑z : Int))) (fun q hq => by rw [eP_w (by omega), te22 hq hx hy hz]), cn_D2 (by omega), pick2, pick2]
    rw [cn_cong (p := fun q => eP V tE (4096 * 2 + (256 * z + 16 * y + x)) (6 * q + 3)) (q := fun q => (V q && !hs V q 3) && (Dq q (↑x : Int) (↑y - 1 : Int) (↑z : Int) || Dq q (↑x - 1 : Int) (↑y - 1 : Int) (↑z : Int))) (fun q hq => by rw [eP_w (by omega), te23 hq hx hy hz]), cn_D2 (by omega), pick3, pick3]
    rw [cn_cong (p := fun q => eP V tE (4096 * 2 + (256 * z + 16 * y + x)) (6 * q + 4)) (q := fun _ => false) (fun q hq => by rw [eP_w (by omega), te24 hq hx hy hz, Bool.and_false]), cn_zero]
    rw [cn_cong (p := fun q => eP V tE (4096 * 2 + (256 * z + 16 * y + x)) (6 * q + 5)) (q := fun _ => false) (fun q hq => by rw [eP_w (by omega), te25 hq hx hy hz, Bool.and_false]), cn_zero]
  rw [e]
  simp only [Int.sub_add_cancel]
  generalize gV V (↑x - 1 : Int) (↑y - 1 : Int) (↑z : Int) = c1
  generalize gV V (↑x : Int) (↑y - 1 : Int) (↑z : Int) = c2
  generalize gV V (↑x : Int) (↑y : Int) (↑z : Int) = c3
  generalize gV V (↑x - 1 : Int) (↑y : Int) (↑z : Int) = c4
  unfold f4
  by_cases ho : o = 0
  · rw [if_pos ho, if_pos ho]
    revert c1 c2 c3 c4
    decide
  · rw [if_neg ho, if_neg ho]
    revert c1 c2 c3 c4
    decide
theorem tc0 {q x y z : Nat} (hq : q < 3375) (hx : x < 16) (hy : y < 16) (hz : z < 16) : tC (eX q 0) (eY q 0) (eZ q 0) (0 / 2) (256 * z + 16 * y + x) = ((Dq q (↑x : Int) (↑y : Int) (↑z : Int) || Dq q (↑x : Int) (↑y : Int) (↑z - 1 : Int)) || (Dq q (↑x : Int) (↑y - 1 : Int) (↑z : Int) || Dq q (↑x : Int) (↑y - 1 : Int) (↑z - 1 : Int))) := by
  rw [Bool.eq_iff_iff]
  unfold tC eX eY eZ Dq
  simp only [Nat.reduceDiv, Nat.reduceMod, Nat.reduceEqDiff, if_true, if_false, Bool.or_eq_true, beq_iff_eq, decide_eq_true_iff, ne_eq, Nat.reduceMul]
  have ha : q % 15 < 15 := by omega
  have hb : q / 15 % 15 < 15 := by omega
  have hc : q / 225 < 15 := by omega
  generalize q % 15 = a at *
  generalize q / 15 % 15 = b at *
  generalize q / 225 = c at *
  clear hq
  omega
theorem tc1 {q x y z : Nat} (hq : q < 3375) (hx : x < 16) (hy : y < 16) (hz : z < 16) : tC (eX q 1) (eY q 1) (eZ q 1) (1 / 2) (256 * z + 16 * y + x) = ((Dq q (↑x - 1 : Int) (↑y : Int) (↑z : Int) || Dq q (↑x - 1 : Int) (↑y : Int) (↑z - 1 : Int)) || (Dq q (↑x - 1 : Int) (↑y - 1 : Int) (↑z : Int) || Dq q (↑x - 1 : Int) (↑y - 1 : Int) (↑z - 1 : Int))) := by
  rw [Bool.eq_iff_iff]
  unfold tC eX eY eZ Dq
  simp only [Nat.reduceDiv, Nat.reduceMod, Nat.reduceEqDiff, if_true, if_false, Bool.or_eq_true, beq_iff_eq, decide_eq_true_iff, ne_eq, Nat.reduceMul]
  have ha : q % 15 < 15 := by omega
  have hb : q / 15 % 15 < 15 := by omega
  have hc : q / 225 < 15 := by omega
  generalize q % 15 = a at *
  generalize q / 15 % 15 = b at *
  generalize q / 225 = c at *
  clear hq
  omega
theorem tc2 {q x y z : Nat} (hq : q < 3375) (hx : x < 16) (hy : y < 16) (hz : z < 16) : tC (eX q 2) (eY q 2) (eZ q 2) (2 / 2) (256 * z + 16 * y + x) = ((Dq q (↑x : Int) (↑y : Int) (↑z : Int) || Dq q (↑x : Int) (↑y : Int) (↑z - 1 : Int)) || (Dq q (↑x - 1 : Int) (↑y : Int) (↑z : Int) || Dq q (↑x - 1 : Int) (↑y : Int) (↑z - 1 : Int))) := by
  rw [Bool.eq_iff_iff]
  unfold tC eX eY eZ Dq
  simp only [Nat.reduceDiv, Nat.reduceMod, Nat.reduceEqDiff, if_true, if_false, Bool.or_eq_true, beq_iff_eq, decide_eq_true_iff, ne_eq, Nat.reduceMul]
  have ha : q % 15 < 15 := by omega
  have hb : q / 15 % 15 < 15 := by omega
  have hc : q / 225 < 15 := by omega
  generalize q % 15 = a at *
  generalize q / 15 % 15 = b at *
  generalize q / 225 = c at *
  clear hq
  omega
theorem tc3 {q x y z : Nat} (hq : q < 3375) (hx : x < 16) (hy : y < 16) (hz : z < 16) : tC (eX q 3) (eY q 3) (eZ q 3) (3 / 2) (256 * z + 16 * y + x) = ((Dq q (↑x : Int) (↑y - 1 : Int) (↑z : Int) || Dq q (↑x : Int) (↑y - 1 : Int) (↑z - 1 : Int)) || (Dq q (↑x - 1 : Int) (↑y - 1 : Int) (↑z : Int) || Dq q (↑x - 1 : Int) (↑y - 1 : Int) (↑z - 1 : Int))) := by
  rw [Bool.eq_iff_iff]
  unfold tC eX eY eZ Dq
  simp only [Nat.reduceDiv, Nat.reduceMod, Nat.reduceEqDiff, if_true, if_false, Bool.or_eq_true, beq_iff_eq, decide_eq_true_iff, ne_eq, Nat.reduceMul]
  have ha : q % 15 < 15 := by omega
  have hb : q / 15 % 15 < 15 := by omega
  have hc : q / 225 < 15 := by omega
  generalize q % 15 = a at *
  generalize q / 15 % 15 = b at *
  generalize q / 225 = c at *
  clear hq
  omega
theorem tc4 {q x y z : Nat} (hq : q < 3375) (hx : x < 16) (hy : y < 16) (hz : z < 16) : tC (eX q 4) (eY q 4) (eZ q 4) (4 / 2) (256 * z + 16 * y + x) = ((Dq q (↑x : Int) (↑y : Int) (↑z : Int) || Dq q (↑x : Int) (↑y - 1 : Int) (↑z : Int)) || (Dq q (↑x - 1 : Int) (↑y : Int) (↑z : Int) || Dq q (↑x - 1 : Int) (↑y - 1 : Int) (↑z : Int))) := by
  rw [Bool.eq_iff_iff]
  unfold tC eX eY eZ Dq
  simp only [Nat.reduceDiv, Nat.reduceMod, Nat.reduceEqDiff, if_true, if_false, Bool.or_eq_true, beq_iff_eq, decide_eq_true_iff, ne_eq, Nat.reduceMul]
  have ha : q % 15 < 15 := by omega
  have hb : q / 15 % 15 < 15 := by omega
  have hc : q / 225 < 15 := by omega
  generalize q % 15 = a at *
  generalize q / 15 % 15 = b at *
  generalize q / 225 = c at *
  clear hq
  omega
theorem tc5 {q x y z : Nat} (hq : q < 3375) (hx : x < 16) (hy : y < 16) (hz : z < 16) : tC (eX q 5) (eY q 5) (eZ q 5) (5 / 2) (256 * z + 16 * y + x) = ((Dq q (↑x : Int) (↑y : Int) (↑z - 1 : Int) || Dq q (↑x : Int) (↑y - 1 : Int) (↑z - 1 : Int)) || (Dq q (↑x - 1 : Int) (↑y : Int) (↑z - 1 : Int) || Dq q (↑x - 1 : Int) (↑y - 1 : Int) (↑z - 1 : Int))) := by
  rw [Bool.eq_iff_iff]
  unfold tC eX eY eZ Dq
  simp only [Nat.reduceDiv, Nat.reduceMod, Nat.reduceEqDiff, if_true, if_false, Bool.or_eq_true, beq_iff_eq, decide_eq_true_iff, ne_eq, Nat.reduceMul]
  have ha : q % 15 < 15 := by omega
  have hb : q / 15 % 15 < 15 := by omega
  have hc : q / 225 < 15 := by omega
  generalize q % 15 = a at *
  generalize q / 15 % 15 = b at *
  generalize q / 225 = c at *
  clear hq
  omega
theorem sC0 {x y z : Nat} (hx : x < 16) (hy : y < 16) (hz : z < 16) : decide (0 < cn (eP V tC (256 * z + 16 * y + x)) 20250) = ((gV V (↑x - 1 : Int) (↑y - 1 : Int) (↑z - 1 : Int) || gV V (↑x : Int) (↑y - 1 : Int) (↑z - 1 : Int) || gV V (↑x - 1 : Int) (↑y : Int) (↑z - 1 : Int) || gV V (↑x : Int) (↑y : Int) (↑z - 1 : Int) || gV V (↑x - 1 : Int) (↑y - 1 : Int) (↑z : Int) || gV V (↑x : Int) (↑y - 1 : Int) (↑z : Int) || gV V (↑x - 1 : Int) (↑y : Int) (↑z : Int) || gV V (↑x : Int) (↑y : Int) (↑z : Int)) && !(gV V (↑x - 1 : Int) (↑y - 1 : Int) (↑z - 1 : Int) && gV V (↑x : Int) (↑y - 1 : Int) (↑z - 1 : Int) && gV V (↑x - 1 : Int) (↑y : Int) (↑z - 1 : Int) && gV V (↑x : Int) (↑y : Int) (↑z - 1 : Int) && gV V (↑x - 1 : Int) (↑y - 1 : Int) (↑z : Int) && gV V (↑x : Int) (↑y - 1 : Int) (↑z : Int) && gV V (↑x - 1 : Int) (↑y : Int) (↑z : Int) && gV V (↑x : Int) (↑y : Int) (↑z : Int))) := by
  have e : cn (eP V tC (256 * z + 16 * y + x)) 20250 = ((gq (gV V (↑x : Int) (↑y : Int) (↑z : Int)) (gV V ((↑x : Int) - 1) ((↑y : Int)) ((↑z : Int))) + gq (gV V (↑x : Int) (↑y : Int) (↑z - 1 : Int)) (gV V ((↑x : Int) - 1) ((↑y : Int)) ((↑z - 1 : Int)))) + (gq (gV V (↑x : Int) (↑y - 1 : Int) (↑z : Int)) (gV V ((↑x : Int) - 1) ((↑y - 1 : Int)) ((↑z : Int))) + gq (gV V (↑x : Int) (↑y - 1 : Int) (↑z - 1 : Int)) (gV V ((↑x : Int) - 1) ((↑y - 1 : Int)) ((↑z - 1 : Int))))) + ((gq (gV V (↑x - 1 : Int) (↑y : Int) (↑z : Int)) (gV V ((↑x - 1 : Int) + 1) ((↑y : Int)) ((↑z : Int))) + gq (gV V (↑x - 1 : Int) (↑y : Int) (↑z - 1 : Int)) (gV V ((↑x - 1 : Int) + 1) ((↑y : Int)) ((↑z - 1 : Int)))) + (gq (gV V (↑x - 1 : Int) (↑y - 1 : Int) (↑z : Int)) (gV V ((↑x - 1 : Int) + 1) ((↑y - 1 : Int)) ((↑z : Int))) + gq (gV V (↑x - 1 : Int) (↑y - 1 : Int) (↑z - 1 : Int)) (gV V ((↑x - 1 : Int) + 1) ((↑y - 1 : Int)) ((↑z - 1 : Int))))) + (((gq (gV V (↑x : Int) (↑y : Int) (↑z : Int)) (gV V ((↑x : Int)) ((↑y : Int) - 1) ((↑z : Int))) + gq (gV V (↑x : Int) (↑y : Int) (↑z - 1 : Int)) (gV V ((↑x : Int)) ((↑y : Int) - 1) ((↑z - 1 : Int)))) + (gq (gV V (↑x - 1 : Int) (↑y : Int) (↑z : Int)) (gV V ((↑x - 1 : Int)) ((↑y : Int) - 1) ((↑z : Int))) + gq (gV V (↑x - 1 : Int) (↑y : Int) (↑z - 1 : Int)) (gV V ((↑x - 1 : Int)) ((↑y : Int) - 1) ((↑z - 1 : Int))))) + ((gq (gV V (↑x : Int) (↑y - 1 : Int) (↑z : Int)) (gV V ((↑x : Int)) ((↑y - 1 : Int) + 1) ((↑z : Int))) + gq (gV V (↑x : Int) (↑y - 1 : Int) (↑z - 1 : Int)) (gV V ((↑x : Int)) ((↑y - 1 : Int) + 1) ((↑z - 1 : Int)))) + (gq (gV V (↑x - 1 : Int) (↑y - 1 : Int) (↑z : Int)) (gV V ((↑x - 1 : Int)) ((↑y - 1 : Int) + 1) ((↑z : Int))) + gq (gV V (↑x - 1 : Int) (↑y - 1 : Int) (↑z - 1 : Int)) (gV V ((↑x - 1 : Int)) ((↑y - 1 : Int) + 1) ((↑z - 1 : Int)))))) + (((gq (gV V (↑x : Int) (↑y : Int) (↑z : Int)) (gV V ((↑x : Int)) ((↑y : Int)) ((↑z : Int) - 1)) + gq (gV V (↑x : Int) (↑y - 1 : Int) (↑z : Int)) (gV V ((↑x : Int)) ((↑y - 1 : Int)) ((↑z : Int) - 1))) + (gq (gV V (↑x - 1 : Int) (↑y : Int) (↑z : Int)) (gV V ((↑x - 1 : Int)) ((↑y : Int)) ((↑z : Int) - 1)) + gq (gV V (↑x - 1 : Int) (↑y - 1 : Int) (↑z : Int)) (gV V ((↑x - 1 : Int)) ((↑y - 1 : Int)) ((↑z : Int) - 1)))) + ((gq (gV V (↑x : Int) (↑y : Int) (↑z - 1 : Int)) (gV V ((↑x : Int)) ((↑y : Int)) ((↑z - 1 : Int) + 1)) + gq (gV V (↑x : Int) (↑y - 1 : Int) (↑z - 1 : Int)) (gV V ((↑x : Int)) ((↑y - 1 : Int)) ((↑z - 1 : Int) + 1))) + (gq (gV V (↑x - 1 : Int) (↑y : Int) (↑z - 1 : Int)) (gV V ((↑x - 1 : Int)) ((↑y : Int)) ((↑z - 1 : Int) + 1)) + gq (gV V (↑x - 1 : Int) (↑y - 1 : Int) (↑z - 1 : Int)) (gV V ((↑x - 1 : Int)) ((↑y - 1 : Int)) ((↑z - 1 : Int) + 1))))) := by
    rw [cn_w6]
    rw [cn_cong (p := fun q => eP V tC (256 * z + 16 * y + x) (6 * q + 0)) (q := fun q => (V q && !hs V q 0) && ((Dq q (↑x : Int) (↑y : Int) (↑z : Int) || Dq q (↑x : Int) (↑y : Int) (↑z - 1 : Int)) || (Dq q (↑x : Int) (↑y - 1 : Int) (↑z : Int) || Dq q (↑x : Int) (↑y - 1 : Int) (↑z - 1 : Int)))) (fun q hq => by rw [eP_w (by omega), tc0 hq hx hy hz]), cn_D4 (by omega) (by omega) (by omega) (by omega) (by omega) (by omega), pick0, pick0, pick0, pick0]
    rw [cn_cong (p := fun q => eP V tC (256 * z + 16 * y + x) (6 * q + 1)) (q := fun q => (V q && !hs V q 1) && ((Dq q (↑x - 1 : Int) (↑y : Int) (↑z : Int) || Dq q (↑x - 1 : Int) (↑y : Int) (↑z - 1 : Int)) || (Dq q (↑x - 1 : Int) (↑y - 1 : Int) (↑z : Int) || Dq q (↑x - 1 : Int) (↑y - 1 : Int) (↑z - 1 : Int)))) (fun q hq => by rw [eP_w (by omega), tc1 hq hx hy hz]), cn_D4 (by omega) (by omega) (by omega) (by omega) (by omega) (by omega), pick1, pick1, pick1, pick1]
    rw [cn_cong (p := fun q => eP V tC (256 * z + 16 * y + x) (6 * q + 2)) (q := fun q => (V q && !hs V q 2) && ((Dq q (↑x : Int) (↑y : Int) (↑z : Int) || Dq q (↑x : Int) (↑y : Int) (↑z - 1 : Int)) || (Dq q (↑x - 1 : Int) (↑y : Int) (↑z : Int) || Dq q (↑x - 1 : Int) (↑y : Int) (↑z - 1 : Int)))) (fun q hq => by rw [eP_w (by omega), tc2 hq hx hy hz]), cn_D4 (by omega) (by omega) (by omega) (by omega) (by omega) (by omega), pick2, pick2, pick2, pick2]
    rw [cn_cong (p := fun q => eP V tC (256 * z + 16 * y + x) (6 * q + 3)) (q := fun q => (V q && !hs V q 3) && ((Dq q (↑x : Int) (↑y - 1 : Int) (↑z : Int) || Dq q (↑x : Int) (↑y - 1 : Int) (↑z - 1 : Int)) || (Dq q (↑x - 1 : Int) (↑y - 1 : Int) (↑z : Int) || Dq q (↑x - 1 : Int) (↑y - 1 : Int) (↑z - 1 : Int)))) (fun q hq => by rw [eP_w (by omega), tc3 hq hx hy hz]), cn_D4 (by omega) (by omega) (by omega) (by omega) (by omega) (by omega), pick3, pick3, pick3, pick3]
    rw [cn_cong (p := fun q => eP V tC (256 * z + 16 * y + x) (6 * q + 4)) (q := fun q => (V q && !hs V q 4) && ((Dq q (↑x : Int) (↑y : Int) (↑z : Int) || Dq q (↑x : Int) (↑y - 1 : Int) (↑z : Int)) || (Dq q (↑x - 1 : Int) (↑y : Int) (↑z : Int) || Dq q (↑x - 1 : Int) (↑y - 1 : Int) (↑z : Int)))) (fun q hq => by rw [eP_w (by omega), tc4 hq hx hy hz]), cn_D4 (by omega) (by omega) (by omega) (by omega) (by omega) (by omega), pick4, pick4, pick4, pick4]
    rw [cn_cong (p := fun q => eP V tC (256 * z + 16 * y + x) (6 * q + 5)) (q := fun q => (V q && !hs V q 5) && ((Dq q (↑x : Int) (↑y : Int) (↑z - 1 : Int) || Dq q (↑x : Int) (↑y - 1 : Int) (↑z - 1 : Int)) || (Dq q (↑x - 1 : Int) (↑y : Int) (↑z - 1 : Int) || Dq q (↑x - 1 : Int) (↑y - 1 : Int) (↑z - 1 : Int)))) (fun q hq => by rw [eP_w (by omega), tc5 hq hx hy hz]), cn_D4 (by omega) (by omega) (by omega) (by omega) (by omega) (by omega), pick5, pick5, pick5, pick5]
  rw [e]
  simp only [Int.sub_add_cancel]
  generalize gV V (↑x - 1 : Int) (↑y - 1 : Int) (↑z - 1 : Int) = c1
  generalize gV V (↑x : Int) (↑y - 1 : Int) (↑z - 1 : Int) = c2
  generalize gV V (↑x - 1 : Int) (↑y : Int) (↑z - 1 : Int) = c3
  generalize gV V (↑x : Int) (↑y : Int) (↑z - 1 : Int) = c4
  generalize gV V (↑x - 1 : Int) (↑y - 1 : Int) (↑z : Int) = c5
  generalize gV V (↑x : Int) (↑y - 1 : Int) (↑z : Int) = c6
  generalize gV V (↑x - 1 : Int) (↑y : Int) (↑z : Int) = c7
  generalize gV V (↑x : Int) (↑y : Int) (↑z : Int) = c8
  revert c1 c2 c3 c4 c5 c6 c7 c8
  decide +kernel
end GV
