/-! pure: counts over rows of bits are counts over places -/
def hs (V : Nat → Bool) (k w : Nat) : Bool := decide (sdv k w < 3375) && V (sdv k w)
theorem sm_sm {F : Nat → Nat} {m : Nat} : ∀ (n : Nat), sm (fun k => sm (fun j => F (m * k + j)) m) n = sm F (m * n)
  | 0 => rfl
  | n + 1 => by
    show sm (fun k => sm (fun j => F (m * k + j)) m) n + sm (fun j => F (m * n + j)) m = _
    rw [sm_sm n, Nat.mul_succ, sm_add]
theorem sm_plus {f g : Nat → Nat} : ∀ (n : Nat), sm (fun k => f k + g k) n = sm f n + sm g n
  | 0 => rfl
  | n + 1 => by
    show sm (fun k => f k + g k) n + (f n + g n) = sm f n + f n + (sm g n + g n)
    rw [sm_plus n]
    omega
theorem sm_zero : ∀ (n : Nat), sm (fun _ => 0) n = 0
  | 0 => rfl
  | n + 1 => sm_zero n
/-- a row's count -/
theorem row_cn {x : Int32} (h : B15 x) : cn (bt x) 16 = cn (fun i => bt x (i + 1)) 15 := by
  have e := cn_shift (p := bt x) 15
  have h0 : bt x 0 = false := by
    cases z : bt x 0
    · rfl
    · have := (h 0 z).1; omega
  rw [h0, if_neg (by decide), Nat.zero_add] at e
  exact e
theorem rows_cn {E : Nat → Int32} (h : ∀ q, q < 225 → B15 (E q)) : sm (fun q => cn (bt (E q)) 16) 225 = cn (fun n => bt (E (n / 15)) (n % 15 + 1)) 3375 := by
  have e := cn_sm (P := fun n => bt (E (n / 15)) (n % 15 + 1)) (w := 15) 225
  rw [show 15 * 225 = 3375 from rfl] at e
  rw [e]
  refine sm_cong (fun q hq => ?_)
  rw [row_cn (h q hq)]
  refine cn_cong (fun i hi => ?_)
  show bt (E q) (i + 1) = bt (E ((15 * q + i) / 15)) ((15 * q + i) % 15 + 1)
  rw [show (15 * q + i) / 15 = q by omega, show (15 * q + i) % 15 = i by omega]
section BTS
variable {V : Nat → Bool}
theorem rw_sp {q : Nat} (h : q < 225) : rwA (rwI V) (spY q) (spZ q) = rwI V q := rwA_sp h
theorem b_H {n : Nat} (h : n < 3375) : bt (rwA (rwI V) (spY (n / 15)) (spZ (n / 15))) (n % 15 + 1) = V n := by
  rw [rw_sp (by omega), bl_rwI]
/-- the row at another place -/
theorem b_at {y z : Int} {n m : Nat} (hy : -7 ≤ y ∧ y ≤ 7) (hz : -7 ≤ z ∧ z ≤ 7) (hm : (m : Int) = 225 * (z + 7) + 15 * (y + 7) + (↑(n % 15) : Int)) : bt (rwA (rwI V) y z) (n % 15 + 1) = V m := by
  unfold rwA
  rw [if_pos ⟨hy, hz⟩, bt_rwI (by omega), decide_eq_true (by omega), Bool.true_and]
  congr 1
  omega
theorem b_out {y z : Int} {i : Nat} (h : ¬ ((-7 ≤ y ∧ y ≤ 7) ∧ (-7 ≤ z ∧ z ≤ 7))) : bt (rwA (rwI V) y z) i = false := by
  unfold rwA
  rw [if_neg h, b_0]
theorem b_ym {n : Nat} (h : n < 3375) : bt (rwA (rwI V) (spY (n / 15) - 1) (spZ (n / 15))) (n % 15 + 1) = hs V n 2 := by
  unfold hs
  rw [sv2]
  by_cases g : 0 < n / 15 % 15
  · rw [if_pos g, decide_eq_true (by omega), Bool.true_and]
    exact b_at (by unfold spY; omega) (by unfold spZ; omega) (by unfold spY spZ; omega)
  · rw [if_neg g, decide_eq_false (by omega), Bool.false_and]
    exact b_out (by unfold spY; omega)
theorem b_yp {n : Nat} (h : n < 3375) : bt (rwA (rwI V) (spY (n / 15) + 1) (spZ (n / 15))) (n % 15 + 1) = hs V n 3 := by
  unfold hs
  rw [sv3]
  by_cases g : n / 15 % 15 < 14
  · rw [if_pos g, decide_eq_true (by omega), Bool.true_and]
    exact b_at (by unfold spY; omega) (by unfold spZ; omega) (by unfold spY spZ; omega)
  · rw [if_neg g, decide_eq_false (by omega), Bool.false_and]
    exact b_out (by unfold spY; omega)
theorem b_zm {n : Nat} (h : n < 3375) : bt (rwA (rwI V) (spY (n / 15)) (spZ (n / 15) - 1)) (n % 15 + 1) = hs V n 4 := by
  unfold hs
  rw [sv4]
  by_cases g : 0 < n / 225
  · rw [if_pos g, decide_eq_true (by omega), Bool.true_and]
    exact b_at (by unfold spY; omega) (by unfold spZ; omega) (by unfold spY spZ; omega)
  · rw [if_neg g, decide_eq_false (by omega), Bool.false_and]
    exact b_out (by unfold spZ; omega)
theorem b_zp {n : Nat} (h : n < 3375) : bt (rwA (rwI V) (spY (n / 15)) (spZ (n / 15) + 1)) (n % 15 + 1) = hs V n 5 := by
  unfold hs
  rw [sv5]
  by_cases g : n / 225 < 14
  · rw [if_pos g, decide_eq_true (by omega), Bool.true_and]
    exact b_at (by unfold spY; omega) (by unfold spZ; omega) (by unfold spY spZ; omega)
  · rw [if_neg g, decide_eq_false (by omega), Bool.false_and]
    exact b_out (by unfold spZ; omega)
theorem b_xm {n : Nat} (h : n < 3375) : bt (rwA (rwI V) (spY (n / 15)) (spZ (n / 15)) <<< ((1 : Int32) &&& 31)) (n % 15 + 1) = hs V n 0 := by
  unfold hs
  rw [b_shl1 _ (by omega), rw_sp (by omega), decide_eq_true (by omega), Bool.true_and, sv0, bt_rwI (by omega)]
  by_cases g : 0 < n % 15
  · rw [if_pos g, decide_eq_true (by omega), decide_eq_true (by omega), Bool.true_and, Bool.true_and]
    congr 1
    omega
  · rw [if_neg g, decide_eq_false (by omega), decide_eq_false (by omega), Bool.false_and, Bool.false_and]
theorem b_xp {n : Nat} (h : n < 3375) : bt (rwA (rwI V) (spY (n / 15)) (spZ (n / 15)) >>> ((1 : Int32) &&& 31)) (n % 15 + 1) = hs V n 1 := by
  unfold hs
  rw [rw_sp (by omega), b_shr1 lo_rwI (by omega), sv1, bt_rwI (by omega)]
  by_cases g : n % 15 < 14
  · rw [if_pos g, decide_eq_true (by omega), decide_eq_true (by omega), Bool.true_and, Bool.true_and]
    congr 1
    omega
  · rw [if_neg g, decide_eq_false (by omega), decide_eq_false (by omega), Bool.false_and, Bool.false_and]
end BTS
theorem sp_y {j k : Nat} (hj : j < 15) : (↑j : Int) - 7 = spY (15 * k + j) := by unfold spY; omega
theorem sp_z {j k : Nat} (hj : j < 15) : (↑k : Int) - 7 = spZ (15 * k + j) := by unfold spZ; omega
/-- two loops over the rows -/
theorem two_cn {E : Int → Int → Int32} (h : ∀ q, q < 225 → B15 (E (spY q) (spZ q))) : sm (fun k => sm (fun j => cn (bt (E ((↑j : Int) - 7) ((↑k : Int) - 7))) 16) 15) 15 = cn (fun n => bt (E (spY (n / 15)) (spZ (n / 15))) (n % 15 + 1)) 3375 := by
  rw [← rows_cn (E := fun q => E (spY q) (spZ q)) h, show (225 : Nat) = 15 * 15 from rfl, ← sm_sm 15]
  refine sm_cong (fun k hk => sm_cong (fun j hj => ?_))
  show cn (bt (E ((↑j : Int) - 7) ((↑k : Int) - 7))) 16 = cn (bt (E (spY (15 * k + j)) (spZ (15 * k + j)))) 16
  rw [sp_y hj (k := k), sp_z hj (k := k)]
section EQS
variable {V V2 : Nat → Bool}
theorem B15_H {q : Nat} (h : q < 225) : B15 (rwA (rwI V) (spY q) (spZ q)) := by rw [rw_sp h]; exact B15_rwI
theorem siz_eq : siz (rwI V) = cn V 3375 := by
  unfold siz slS
  rw [two_cn (E := fun y z => rwA (rwI V) y z) (fun q hq => B15_H hq)]
  exact cn_cong (fun n hn => b_H hn)
theorem bo_eq : boS V V2 = cn (fun k => V k && V2 k) 3375 := by
  unfold boS shR
  rw [two_cn (E := fun y z => rwA (rwI V) y z &&& rwA (rwI V2) y z) (fun q hq => B15_and (B15_H hq))]
  refine cn_cong (fun n hn => ?_)
  rw [b_and, b_H hn, b_H hn]
theorem cn_cut {p q : Nat → Bool} : ∀ (n : Nat), cn p n = cn (fun k => p k && q k) n + cn (fun k => p k && !q k) n
  | 0 => rfl
  | n + 1 => by
    show cn p n + (if p n = true then 1 else 0) = cn (fun k => p k && q k) n + (if (p n && q n) = true then 1 else 0) + (cn (fun k => p k && !q k) n + (if (p n && !q n) = true then 1 else 0))
    rw [cn_cut (p := p) (q := q) n]
    cases p n <;> cases q n <;> simp <;> omega
theorem th_eq (way : Int32) (w : Nat) (hw : w ≤ 2) (e : way = nI w) : thS V way = cn (fun k => V k && !hs V k (2 * w) && !hs V k (2 * w + 1)) 3375 := by
  unfold thS thR
  rw [two_cn (E := fun y z => rwA (rwI V) y z &&& (thN (rwI V) way y z ^^^ (-1))) (fun q hq => B15_and (B15_H hq))]
  refine cn_cong (fun n hn => ?_)
  rw [b_and, b_H hn, b_not _ (by omega), Bool.and_assoc]
  congr 1
  unfold thN
  rcases (show w = 0 ∨ w = 1 ∨ w = 2 by omega) with rfl | rfl | rfl
  · rw [e, if_pos (show nI 0 = 0 from rfl), b_or, b_xm hn, b_xp hn, Bool.not_or]
  · rw [e, if_neg (by decide), if_pos (show nI 1 = 1 from rfl), b_or, b_ym hn, b_yp hn, Bool.not_or]
  · rw [e, if_neg (by decide), if_neg (by decide), b_or, b_zm hn, b_zp hn, Bool.not_or]
theorem hg_eq {z : Int} (hz : -7 ≤ z ∧ z ≤ 7) : hgS V z = cn (fun k => V k && (decide (z < (↑(k / 225) : Int) - 7) && !hs V k 4)) 3375 := by
  have h1 : sm (fun k => sm (fun j => cn (bt (if z < ((↑k : Int) - 7) then rwA (rwI V) ((↑j : Int) - 7) ((↑k : Int) - 7) &&& (rwA (rwI V) ((↑j : Int) - 7) ((↑k : Int) - 7 - 1) ^^^ (-1)) else 0)) 16) 15) 15 = cn (fun k => V k && (decide (z < (↑(k / 225) : Int) - 7) && !hs V k 4)) 3375 := by
    rw [two_cn (E := fun y zc => if z < zc then rwA (rwI V) y zc &&& (rwA (rwI V) y (zc - 1) ^^^ (-1)) else 0) (fun q hq => by
      show B15 (if z < spZ q then _ else _)
      split
      · exact B15_and (B15_H hq)
      · exact B15_0)]
    refine cn_cong (fun n hn => ?_)
    have es : spZ (n / 15) = (↑(n / 225) : Int) - 7 := by unfold spZ; omega
    show bt (if z < spZ (n / 15) then _ else _) (n % 15 + 1) = _
    by_cases g : z < (↑(n / 225) : Int) - 7
    · rw [if_pos (by omega), b_and, b_H hn, b_not _ (by omega), b_zm hn, decide_eq_true g, Bool.true_and]
    · rw [if_neg (by omega), b_0, decide_eq_false g, Bool.false_and, Bool.and_false]
  rw [← h1]
  unfold hgS hgR
  have h2 := sm_add (f := fun k => sm (fun j => cn (bt (if z < ((↑k : Int) - 7) then rwA (rwI V) ((↑j : Int) - 7) ((↑k : Int) - 7) &&& (rwA (rwI V) ((↑j : Int) - 7) ((↑k : Int) - 7 - 1) ^^^ (-1)) else 0)) 16) 15) (z + 8).toNat (7 - z).toNat
  rw [show (z + 8).toNat + (7 - z).toNat = 15 by omega] at h2
  rw [h2]
  have h3 : sm (fun k => sm (fun j => cn (bt (if z < ((↑k : Int) - 7) then rwA (rwI V) ((↑j : Int) - 7) ((↑k : Int) - 7) &&& (rwA (rwI V) ((↑j : Int) - 7) ((↑k : Int) - 7 - 1) ^^^ (-1)) else 0)) 16) 15) (z + 8).toNat = 0 := by
    rw [sm_cong (g := fun _ => 0) (fun k hk => ?_), sm_zero]
    rw [sm_cong (g := fun _ => 0) (fun j hj => ?_), sm_zero]
    show cn (bt (if z < ((↑k : Int) - 7) then _ else (0 : Int32))) 16 = 0
    rw [if_neg (by omega)]
    have e0 : bt (0 : Int32) = fun _ => false := funext (fun i => b_0 i)
    rw [e0, cn_zero]
  rw [h3, Nat.zero_add]
  refine sm_cong (fun k hk => sm_cong (fun j hj => ?_))
  show _ = cn (bt (if z < ((↑((z + 8).toNat + k) : Int) - 7) then rwA (rwI V) ((↑j : Int) - 7) ((↑((z + 8).toNat + k) : Int) - 7) &&& (rwA (rwI V) ((↑j : Int) - 7) ((↑((z + 8).toNat + k) : Int) - 7 - 1) ^^^ (-1)) else 0)) 16
  rw [if_pos (by omega), show (↑((z + 8).toNat + k) : Int) - 7 = z + 1 + (↑k : Int) by omega]
end EQS
