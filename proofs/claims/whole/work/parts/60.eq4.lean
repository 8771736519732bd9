/-! pure: the sums of edges and corners -/
def fe0 (V : Nat → Bool) (o : Int32) (x y z : Int) : Bool := f4 o (gV V x (y - 1) (z - 1)) (gV V x y (z - 1)) (gV V x y z) (gV V x (y - 1) z)
def fe1 (V : Nat → Bool) (o : Int32) (x y z : Int) : Bool := f4 o (gV V (x - 1) y (z - 1)) (gV V x y (z - 1)) (gV V x y z) (gV V (x - 1) y z)
def fe2 (V : Nat → Bool) (o : Int32) (x y z : Int) : Bool := f4 o (gV V (x - 1) (y - 1) z) (gV V x (y - 1) z) (gV V x y z) (gV V (x - 1) y z)
def fco (V : Nat → Bool) (x y z : Int) : Bool := (gV V (x - 1) (y - 1) (z - 1) || gV V x (y - 1) (z - 1) || gV V (x - 1) y (z - 1) || gV V x y (z - 1) || gV V (x - 1) (y - 1) z || gV V x (y - 1) z || gV V (x - 1) y z || gV V x y z) && !(gV V (x - 1) (y - 1) (z - 1) && gV V x (y - 1) (z - 1) && gV V (x - 1) y (z - 1) && gV V x y (z - 1) && gV V (x - 1) (y - 1) z && gV V x (y - 1) z && gV V (x - 1) y z && gV V x y z)
theorem f4_0 (o : Int32) : f4 o false false false false = false := by
  unfold f4
  split <;> rfl
theorem bt_eg {o ra rb rc rd : Int32} {i : Nat} (hi : i < 32) : bt (if o = 0 then eg1 ra rb rc rd else eg4 ra rb rc rd) i = f4 o (bt ra i) (bt rb i) (bt rc i) (bt rd i) := by
  unfold f4
  by_cases h : o = 0
  · rw [if_pos h, if_pos h]
    unfold eg1
    rw [b_and, b_or, b_or, b_or, b_not _ hi, b_and, b_and, b_and]
  · rw [if_neg h, if_neg h]
    unfold eg4
    rw [b_and, b_and, b_xor, b_xor, b_xor]
theorem sm_shift {f : Nat → Nat} : ∀ (n : Nat), sm f (n + 1) = f 0 + sm (fun j => f (j + 1)) n
  | 0 => by show 0 + f 0 = f 0 + 0; omega
  | n + 1 => by
    show sm f (n + 1) + f (n + 1) = f 0 + (sm (fun j => f (j + 1)) n + f (n + 1))
    rw [sm_shift n]
    omega
theorem sm_sh {F : Int → Nat} (h1 : F (-1) = 0) (h2 : F 15 = 0) : sm (fun j => F ((↑j : Int) - 1)) 16 = sm (fun j => F (↑j : Int)) 16 := by
  rw [sm_shift (f := fun j => F ((↑j : Int) - 1)) 15]
  show F ((0 : Int) - 1) + _ = sm (fun j => F (↑j : Int)) 15 + F 15
  rw [show (0 : Int) - 1 = -1 from rfl, h1, h2, Nat.zero_add, Nat.add_zero]
  refine sm_cong (fun j _ => ?_)
  show F ((↑(j + 1) : Int) - 1) = F (↑j : Int)
  rw [show (↑(j + 1) : Int) - 1 = (↑j : Int) by omega]
theorem cn_sh {F : Int → Bool} (h1 : F (-1) = false) (h2 : F 15 = false) : cn (fun j => F ((↑j : Int) - 1)) 16 = cn (fun j => F (↑j : Int)) 16 := by
  rw [cn_sm1, cn_sm1]
  exact sm_sh (F := fun x => if F x = true then 1 else 0) (by rw [h1]; rfl) (by rw [h2]; rfl)
theorem sm_00 {f : Nat → Nat} {n : Nat} (h : ∀ j, j < n → f j = 0) : sm f n = 0 := by rw [sm_cong (g := fun _ => 0) h, sm_zero]
theorem cn_00 {f : Nat → Bool} {n : Nat} (h : ∀ j, j < n → f j = false) : cn f n = 0 := by rw [cn_cong (q := fun _ => false) h, cn_zero]
section ES
variable {V : Nat → Bool} {o : Int32}
theorem fe0_o {x y z : Int} (h : x = -1 ∨ x = 15) : fe0 V o x y z = false := by
  unfold fe0
  rw [gV_out (by omega), gV_out (by omega), gV_out (by omega), gV_out (by omega), f4_0]
theorem fe1_o {x y z : Int} (h : y = -1 ∨ y = 15) : fe1 V o x y z = false := by
  unfold fe1
  rw [gV_out (by omega), gV_out (by omega), gV_out (by omega), gV_out (by omega), f4_0]
theorem fe2_o {x y z : Int} (h : z = -1 ∨ z = 15) : fe2 V o x y z = false := by
  unfold fe2
  rw [gV_out (by omega), gV_out (by omega), gV_out (by omega), gV_out (by omega), f4_0]
theorem ed1_eq {j k : Nat} : ed1 (rwI V) o ((↑j : Int) - 8) ((↑k : Int) - 8) = cn (fun x => fe0 V o (↑x : Int) (↑j : Int) (↑k : Int)) 16 := by
  rw [← cn_sh (F := fun x => fe0 V o x (↑j : Int) (↑k : Int)) (fe0_o (Or.inl rfl)) (fe0_o (Or.inr rfl))]
  unfold ed1 egs
  refine cn_cong (fun i hi => ?_)
  rw [bt_eg (by omega), bt_gV (by omega), bt_gV (by omega), bt_gV (by omega), bt_gV (by omega)]
  unfold fe0
  rw [show (↑j : Int) - 8 + 7 = ↑j - 1 by omega, show (↑j : Int) - 8 + 1 + 7 = ↑j by omega, show (↑k : Int) - 8 + 7 = ↑k - 1 by omega, show (↑k : Int) - 8 + 1 + 7 = ↑k by omega]
theorem ed2_eq {j k : Nat} : ed2 (rwI V) o ((↑j : Int) - 8) ((↑k : Int) - 8) = cn (fun x => fe1 V o (↑x : Int) ((↑j : Int) - 1) (↑k : Int)) 16 := by
  unfold ed2 egs
  refine cn_cong (fun i hi => ?_)
  rw [bt_eg (by omega), bt_gV (by omega), bs_gV (by omega), bs_gV (by omega), bt_gV (by omega)]
  unfold fe1
  rw [show (↑j : Int) - 8 + 7 = ↑j - 1 by omega, show (↑k : Int) - 8 + 7 = ↑k - 1 by omega, show (↑k : Int) - 8 + 1 + 7 = ↑k by omega]
theorem ed3_eq {j k : Nat} : ed3 (rwI V) o ((↑j : Int) - 8) ((↑k : Int) - 8) = cn (fun x => fe2 V o (↑x : Int) (↑j : Int) ((↑k : Int) - 1)) 16 := by
  unfold ed3 egs
  refine cn_cong (fun i hi => ?_)
  rw [bt_eg (by omega), bt_gV (by omega), bs_gV (by omega), bs_gV (by omega), bt_gV (by omega)]
  unfold fe2
  rw [show (↑j : Int) - 8 + 7 = ↑j - 1 by omega, show (↑j : Int) - 8 + 1 + 7 = ↑j by omega, show (↑k : Int) - 8 + 7 = ↑k - 1 by omega]
theorem edS_eq : edS V o = sm (fun z => sm (fun y => cn (fun x => fe0 V o (↑x : Int) (↑y : Int) (↑z : Int)) 16) 16) 16 + sm (fun z => sm (fun y => cn (fun x => fe1 V o (↑x : Int) (↑y : Int) (↑z : Int)) 16) 16) 16 + sm (fun z => sm (fun y => cn (fun x => fe2 V o (↑x : Int) (↑y : Int) (↑z : Int)) 16) 16) 16 := by
  unfold edS edR
  simp only [sm_plus, ed1_eq, ed2_eq, ed3_eq]
  have e2 : ∀ k : Nat, sm (fun j => cn (fun x => fe1 V o (↑x : Int) ((↑j : Int) - 1) (↑k : Int)) 16) 16 = sm (fun j => cn (fun x => fe1 V o (↑x : Int) (↑j : Int) (↑k : Int)) 16) 16 := fun k => sm_sh (F := fun y => cn (fun x => fe1 V o (↑x : Int) y (↑k : Int)) 16) (cn_00 (fun j _ => fe1_o (Or.inl rfl))) (cn_00 (fun j _ => fe1_o (Or.inr rfl)))
  have e3 : sm (fun k => sm (fun j => cn (fun x => fe2 V o (↑x : Int) (↑j : Int) ((↑k : Int) - 1)) 16) 16) 16 = sm (fun k => sm (fun j => cn (fun x => fe2 V o (↑x : Int) (↑j : Int) (↑k : Int)) 16) 16) 16 := sm_sh (F := fun z => sm (fun j => cn (fun x => fe2 V o (↑x : Int) (↑j : Int) z) 16) 16) (sm_00 (fun j _ => cn_00 (fun i _ => fe2_o (Or.inl rfl)))) (sm_00 (fun j _ => cn_00 (fun i _ => fe2_o (Or.inr rfl))))
  rw [sm_cong (fun k _ => e2 k), e3]
theorem blk {Q : Nat → Bool} : cn Q 4096 = sm (fun z => sm (fun y => cn (fun x => Q (256 * z + 16 * y + x)) 16) 16) 16 := by
  have h := cn_sm (P := Q) (w := 256) 16
  rw [show 256 * 16 = 4096 from rfl] at h
  rw [h]
  refine sm_cong (fun z _ => ?_)
  have h2 := cn_sm (P := fun j => Q (256 * z + j)) (w := 16) 16
  rw [show 16 * 16 = 256 from rfl] at h2
  rw [h2]
  refine sm_cong (fun y _ => cn_cong (fun x _ => ?_))
  show Q (256 * z + (16 * y + x)) = Q (256 * z + 16 * y + x)
  rw [Nat.add_assoc]
theorem add3 {a b c a2 b2 c2 : Nat} (h1 : a = a2) (h2 : b = b2) (h3 : c = c2) : a + b + c = a2 + b2 + c2 := by rw [h1, h2, h3]
theorem ed_eq : edS V o = cn (fun j => if o = 0 then decide (0 < cn (eP V tE j) 20250) else decide (cn (eP V tE j) 20250 = 4)) 12288 := by
  rw [edS_eq, show (12288 : Nat) = 4096 + 4096 + 4096 from rfl, cn_split, cn_split, blk, blk, blk]
  refine add3 ?_ ?_ ?_
  · refine sm_cong (fun z hz => sm_cong (fun y hy => cn_cong (fun x hx => ?_)))
    have e := sE0 (V := V) hx hy hz o
    rw [show 4096 * 0 + (256 * z + 16 * y + x) = 256 * z + 16 * y + x by omega] at e
    exact e.symm
  · refine sm_cong (fun z hz => sm_cong (fun y hy => cn_cong (fun x hx => ?_)))
    have e := sE1 (V := V) hx hy hz o
    rw [show 4096 * 1 + (256 * z + 16 * y + x) = 4096 + (256 * z + 16 * y + x) by omega] at e
    exact e.symm
  · refine sm_cong (fun z hz => sm_cong (fun y hy => cn_cong (fun x hx => ?_)))
    have e := sE2 (V := V) hx hy hz o
    rw [show 4096 * 2 + (256 * z + 16 * y + x) = 4096 + 4096 + (256 * z + 16 * y + x) by omega] at e
    exact e.symm
theorem co_eq : coS V = cn (fun j => decide (0 < cn (eP V tC j) 20250)) 4096 := by
  rw [blk]
  unfold coS coR
  refine sm_cong (fun k hk => sm_cong (fun j hj => cn_cong (fun i hi => ?_)))
  have e := sC0 (V := V) hi hj hk
  rw [e]
  unfold coN
  have hlo : ∀ y z : Int, lo16 (rwA (rwI V) y z) := fun y z => lo_rwA (fun q _ => lo_rwI)
  rw [b_and, b_or, b_shr1 (lo_or (lo_or (lo_or (hlo _ _) (hlo _ _)) (hlo _ _)) (hlo _ _)) (by omega), b_not _ (by omega), b_and, b_shr1 (lo_and (lo_and (lo_and (hlo _ _)))) (by omega)]
  simp only [b_or, b_and]
  rw [bt_gV (by omega), bt_gV (by omega), bt_gV (by omega), bt_gV (by omega), bt_gV (by omega), bt_gV (by omega), bt_gV (by omega), bt_gV (by omega)]
  rw [show (↑j : Int) - 8 + 7 = ↑j - 1 by omega, show (↑j : Int) - 8 + 1 + 7 = ↑j by omega, show (↑k : Int) - 8 + 7 = ↑k - 1 by omega, show (↑k : Int) - 8 + 1 + 7 = ↑k by omega, show (↑(i + 1) : Int) - 1 = ↑i by omega]
  generalize gV V (↑i - 1 : Int) (↑j - 1 : Int) (↑k - 1 : Int) = c1
  generalize gV V (↑i : Int) (↑j - 1 : Int) (↑k - 1 : Int) = c2
  generalize gV V (↑i - 1 : Int) (↑j : Int) (↑k - 1 : Int) = c3
  generalize gV V (↑i : Int) (↑j : Int) (↑k - 1 : Int) = c4
  generalize gV V (↑i - 1 : Int) (↑j - 1 : Int) (↑k : Int) = c5
  generalize gV V (↑i : Int) (↑j - 1 : Int) (↑k : Int) = c6
  generalize gV V (↑i - 1 : Int) (↑j : Int) (↑k : Int) = c7
  generalize gV V (↑i : Int) (↑j : Int) (↑k : Int) = c8
  clear e hlo
  revert c1 c2 c3 c4 c5 c6 c7 c8
  decide +kernel
end ES
theorem sE_eP (t : TX) (j : Nat) : sE t j = cn (eP (vw t) tE j) 20250 := rfl
theorem sC_eP (t : TX) (j : Nat) : sC t j = decide (0 < cn (eP (vw t) tC j) 20250) := rfl
theorem sk0_eq (t : TX) : sm (sqT (rwI (vw t))) 15 = cn (sq1 t) 20250 := sq_eq
theorem sk1_eq (t : TX) : edS (vw t) 0 = cn (fun j => decide (0 < sE t j)) 12288 := ed_eq
theorem sk2_eq (t : TX) : coS (vw t) = cn (sC t) 4096 := co_eq
theorem sk3_eq (t : TX) : edS (vw t) 1 = cn (fun j => decide (sE t j = 4)) 12288 := ed_eq
theorem ol1_eq (t : TX) {zz : Nat} (hz : zz < 15) : sm (olR (rwI (vw t)) ((↑zz : Int) - 7)) 15 = cn (ol1 t zz) 900 := ol_eq hz
theorem pc1_eq (t : TX) {zz : Nat} (hz : zz < 15) : cn (plS (ZV (vw t) ((↑zz : Int) - 7))) 3375 = cn (pc1 t zz) 225 := pc_eq hz
