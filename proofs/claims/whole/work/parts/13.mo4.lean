/-! the reference: spans of one rule -/
theorem sq_b {x : Int} (h1 : -3100 ≤ x) (h2 : x ≤ 3100) : 0 ≤ x * x ∧ x * x ≤ 9610000 := by
  have h3 : (x * x : Int) = (-x) * (-x) := by rw [Int.neg_mul_neg]
  rcases Int.le_total 0 x with q | q
  · exact ⟨Int.mul_nonneg q q, Int.le_trans (Int.mul_le_mul h2 h2 q (by decide)) (by decide)⟩
  · rw [h3]
    exact ⟨Int.mul_nonneg (by omega) (by omega), Int.le_trans (Int.mul_le_mul (show -x ≤ 3100 by omega) (show -x ≤ 3100 by omega) (by omega) (by decide)) (by decide)⟩
def sqL (a b m : Int) : Int := if a ≤ m ∧ m ≤ b then 0 else if (a - m) * (a - m) < (b - m) * (b - m) then (a - m) * (a - m) else (b - m) * (b - m)
def sqH (a b m : Int) : Int := if (b - m) * (b - m) < (a - m) * (a - m) then (a - m) * (a - m) else (b - m) * (b - m)
def mx (a b : Int) : Int := if a < b then b else a
theorem mxb {a b : Int} (h1 : -1000000 ≤ a ∧ a ≤ 1000000) (h2 : -1000000 ≤ b ∧ b ≤ 1000000) : -1000000 ≤ mx a b ∧ mx a b ≤ 1000000 := by unfold mx; split <;> assumption
def prL (a b c : Int) : Int := if c < 0 then c * b else c * a
def prH (a b c : Int) : Int := if c < 0 then c * a else c * b
theorem lrem_eq (a b : Int64) : a - a / b * b = a % b := by
  apply Int64.toInt_inj.mp
  have h1 := Int64.le_toInt (a % b)
  have h2 := Int64.toInt_lt (a % b)
  rw [Int64.toInt_sub, Int64.toInt_mul, Int64.toInt_div, Int.bmod_mul_bmod, Int.sub_bmod_bmod, Int.mul_comm (a.toInt.tdiv b.toInt), ← Int.tmod_def, ← Int64.toInt_mod]
  exact Int.bmod_eq_of_le_mul_two (by omega) (by omega)
theorem lmod_eq {v n : Int} (hn : 1 ≤ n) (hn2 : n ≤ 20) (h1 : -1000000 ≤ v) (h2 : v ≤ 1000000) : (iL v - iL v / iL n * iL n) = iL (v.tmod n) := by
  rw [lrem_eq, ← Int64.toInt_inj, Int64.toInt_mod, iL_toInt (by omega) (by omega), iL_toInt (by omega) (by omega)]
  have h3 := Int.tmod_lt_of_pos v (show 0 < n by omega)
  have h4 := Int.lt_tmod_of_pos v (show 0 < n by omega)
  rw [iL_toInt (by omega) (by omega)]
theorem emod_t {v n : Int} (hn : 1 ≤ n) : v % n = if v.tmod n < 0 then v.tmod n + n else v.tmod n := by
  have h3 := Int.tmod_lt_of_pos v (show 0 < n by omega)
  have h4 := Int.lt_tmod_of_pos v (show 0 < n by omega)
  have h5 := Int.mul_tdiv_add_tmod v n
  have e : v % n = v.tmod n % n := by
    have : v = v.tmod n + n * v.tdiv n := by omega
    conv => lhs; rw [this]
    rw [Int.add_mul_emod_self_left]
  rw [e]
  split
  · have : v.tmod n % n = (v.tmod n + n) % n := by rw [Int.add_emod_right]
    rw [this, Int.emod_eq_of_lt (by omega) (by omega)]
  · exact Int.emod_eq_of_lt (by omega) (by omega)
/-- how many numbers a rule has -/
def nOf (k : Nat) : Nat := if k = 0 ∨ k = 2 then 4 else if k = 1 then 6 else if k = 6 then 3 else if k = 9 then 1 else 0
/-- a block (x from, to, y from, to, z from, to) as the rule above hands it down -/
def dn (kd : Nat) (nb B : Nat → Int) (i : Nat) : Int := if kd = 6 then B i - nb (i / 2) else if kd = 7 then B ((i + 2) % 6) else if kd = 8 then (if i = 0 then -B 1 else if i = 1 then -B 0 else B i) else if kd = 9 then (if i = 0 then (if nb 0 ≤ B 1 - B 0 + 1 ∨ B 1 % nb 0 < B 0 % nb 0 then 0 else B 0 % nb 0) else if i = 1 then (if nb 0 ≤ B 1 - B 0 + 1 ∨ B 1 % nb 0 < B 0 % nb 0 then nb 0 - 1 else B 1 % nb 0) else B i) else B i
def gbox (g : Nat → Nat → Int64) (k : Nat) (B : Nat → Int) : Nat → Nat → Int64 := va_up (va_up (va_up (va_up (va_up (va_up g 16 (vp_updL (g 16) k (iL (B 0)))) 17 (vp_updL (g 17) k (iL (B 1)))) 18 (vp_updL (g 18) k (iL (B 2)))) 19 (vp_updL (g 19) k (iL (B 3)))) 20 (vp_updL (g 20) k (iL (B 4)))) 21 (vp_updL (g 21) k (iL (B 5)))
def lfL (kd : Nat) (nb B : Nat → Int) : Int := if kd = 0 then 0 + sqL (B 0) (B 1) (nb 0) + sqL (B 2) (B 3) (nb 1) + sqL (B 4) (B 5) (nb 2) - nb 3 * nb 3 else if kd = 1 then mx (mx (mx (mx (mx (nb 0 - B 1) (B 0 - nb 3)) (nb 1 - B 3)) (B 2 - nb 4)) (nb 2 - B 5)) (B 4 - nb 5) - 1 else 0 + prL (B 0) (B 1) (nb 0) + prL (B 2) (B 3) (nb 1) + prL (B 4) (B 5) (nb 2) - nb 3
def lfH (kd : Nat) (nb B : Nat → Int) : Int := if kd = 0 then 0 + sqH (B 0) (B 1) (nb 0) + sqH (B 2) (B 3) (nb 1) + sqH (B 4) (B 5) (nb 2) - nb 3 * nb 3 else if kd = 1 then mx (mx (mx (mx (mx (nb 0 - B 0) (B 1 - nb 3)) (nb 1 - B 2)) (B 3 - nb 4)) (nb 2 - B 4)) (B 5 - nb 5) - 1 else 0 + prH (B 0) (B 1) (nb 0) + prH (B 2) (B 3) (nb 1) + prH (B 4) (B 5) (nb 2) - nb 3
set_option maxHeartbeats 400000 in
set_option maxRecDepth 100000 in
theorem c_Mo_modulo (l : Launch) (v : Int) (n : Int)  (hn : 1 ≤ n) (hn2 : n ≤ 20) (hv1 : -1000000 ≤ v) (hv2 : v ≤ 1000000) : SMl l y_Mo_modulo b_Mo_modulo 5 (some .long) 0 0 [.long (iL v), .int (iI n)] (fun r => r = iL (v % n)) := by
  refine st_entl (own := R_Mo) (by decide) rfl (Nat.le_of_ble_eq_true rfl) ?_
  intro p e s m args below meth c Q hC hret ls hl
  have hx := hC.1
  have hb := hC.2.1
  replace hl : lv_has ls 5 [(0, .long (iL v)), (2, .int (iI n))] := hl
  refine lv_lload_n hx hb d_Mo_modulo_0 rfl (lv_at hl 0 rfl) ?_
  refine lv_iload_n hx hb d_Mo_modulo_1 rfl (lv_at hl 1 rfl) ?_
  refine lv_i2l (v := iL n) hx hb d_Mo_modulo_2 (iI_l (z := n) (by omega) (by omega)) ?_
  refine lv_lrem hx hb d_Mo_modulo_3 (fun e => by rw [iL_lit, iL_eq (by omega) (by omega) (by omega) (by omega)] at e; omega) ?_
  refine topl_eq (lmod_eq hn hn2 hv1 hv2) ?_
  refine lv_lstore_n (lv' := [(3, .long (iL (v.tmod n))), (0, .long (iL v)), (2, .int (iI n))]) hx hb d_Mo_modulo_4 rfl hl (by decide) rfl (fun ls hl => ?_)
  refine lv_lload_n hx hb d_Mo_modulo_5 rfl (lv_at hl 0 rfl) ?_
  refine lv_lconst (v := 0) hx hb d_Mo_modulo_6 (by decide) ?_
  refine zl_ge hx hb (v.tmod n) 0 (by have := Int.tmod_lt_of_pos v (show 0 < n by omega); have := Int.lt_tmod_of_pos v (show 0 < n by omega); omega) (by have := Int.tmod_lt_of_pos v (show 0 < n by omega); have := Int.lt_tmod_of_pos v (show 0 < n by omega); omega) (by have := Int.tmod_lt_of_pos v (show 0 < n by omega); have := Int.lt_tmod_of_pos v (show 0 < n by omega); omega) (by have := Int.tmod_lt_of_pos v (show 0 < n by omega); have := Int.lt_tmod_of_pos v (show 0 < n by omega); omega) d_Mo_modulo_7 d_Mo_modulo_8 (tgt := 18) (by decide) (fun h1 => ?_) (fun h1 => ?_)
  · skip
    refine lv_lload_n hx hb d_Mo_modulo_18 rfl (lv_at hl 0 rfl) ?_
    exact hret _ _ _ d_Mo_modulo_19 (by rw [emod_t hn, if_neg h1])
  · skip
    refine lv_lload_n hx hb d_Mo_modulo_11 rfl (lv_at hl 0 rfl) ?_
    refine lv_iload_n hx hb d_Mo_modulo_12 rfl (lv_at hl 2 rfl) ?_
    refine lv_i2l (v := iL n) hx hb d_Mo_modulo_13 (iI_l (z := n) (by omega) (by omega)) ?_
    refine lv_ladd hx hb d_Mo_modulo_14 ?_
    refine topl_eq (iL_add (v.tmod n) n) ?_
    refine lv_goto (tgt := 19) hx hb d_Mo_modulo_15 (by decide) ?_
    exact hret _ _ _ d_Mo_modulo_19 (by rw [emod_t hn, if_pos h1])
set_option maxHeartbeats 400000 in
set_option maxRecDepth 100000 in
theorem c_Mo_addSquares (l : Launch) (D : va_G) (cT : Nat → ClassId) (ad : Nat → Nat) (I : Nat → Int32) (J : Nat → Int64) (a : Nat → Nat → Int32) (g : Nat → Nat → Int64) (x : Int) (y : Int) (mi : Int) (lo hi : Int) (hlo : J 24 = iL lo) (hhi : J 25 = iL hi) (hx1 : -3000 ≤ x) (hx2 : x ≤ 3000) (hy1 : -3000 ≤ y) (hy2 : y ≤ 3000) (hm1 : -20 ≤ mi) (hm2 : mi ≤ 20) : MMv l D cT ad y_Mo_addSquares b_Mo_addSquares 10 none 1 25 [.long (iL x), .long (iL y), .int (iI mi)] I J a g (fun u => u = (I, vp_updL (vp_updL J 24 (iL (lo + sqL x y mi))) 25 (iL (hi + sqH x y mi)), a, g)) := by
  refine mo_entv (by decide) rfl (Nat.le_of_ble_eq_true rfl) ?_
  intro p e s m args below meth c Q hC hK hM hret ls hl
  have hx := hC.1
  have hb := hC.2.1
  replace hl : lv_has ls 10 [(0, .ref (ad 46)), (1, .long (iL x)), (3, .long (iL y)), (5, .int (iI mi))] := hl
  refine lv_lload_n hx hb d_Mo_addSquares_0 rfl (lv_at hl 1 rfl) ?_
  refine lv_iload hx hb d_Mo_addSquares_1 (lv_at hl 3 rfl) ?_
  refine lv_i2l (v := iL mi) hx hb d_Mo_addSquares_3 (iI_l (z := mi) (by omega) (by omega)) ?_
  refine lv_lsub hx hb d_Mo_addSquares_4 ?_
  refine topl_eq (iL_sub x mi) ?_
  refine lv_lload_n hx hb d_Mo_addSquares_5 rfl (lv_at hl 1 rfl) ?_
  refine lv_iload hx hb d_Mo_addSquares_6 (lv_at hl 3 rfl) ?_
  refine lv_i2l (v := iL mi) hx hb d_Mo_addSquares_8 (iI_l (z := mi) (by omega) (by omega)) ?_
  refine lv_lsub hx hb d_Mo_addSquares_9 ?_
  refine topl_eq (iL_sub x mi) ?_
  refine lv_lmul hx hb d_Mo_addSquares_10 ?_
  refine topl_eq (iL_mul (x - mi) (x - mi)) ?_
  refine lv_lstore (lv' := [(6, .long (iL ((x - mi) * (x - mi)))), (0, .ref (ad 46)), (1, .long (iL x)), (3, .long (iL y)), (5, .int (iI mi))]) hx hb d_Mo_addSquares_11 hl (by decide) rfl (fun ls hl => ?_)
  refine lv_lload_n hx hb d_Mo_addSquares_13 rfl (lv_at hl 3 rfl) ?_
  refine lv_iload hx hb d_Mo_addSquares_14 (lv_at hl 4 rfl) ?_
  refine lv_i2l (v := iL mi) hx hb d_Mo_addSquares_16 (iI_l (z := mi) (by omega) (by omega)) ?_
  refine lv_lsub hx hb d_Mo_addSquares_17 ?_
  refine topl_eq (iL_sub y mi) ?_
  refine lv_lload_n hx hb d_Mo_addSquares_18 rfl (lv_at hl 3 rfl) ?_
  refine lv_iload hx hb d_Mo_addSquares_19 (lv_at hl 4 rfl) ?_
  refine lv_i2l (v := iL mi) hx hb d_Mo_addSquares_21 (iI_l (z := mi) (by omega) (by omega)) ?_
  refine lv_lsub hx hb d_Mo_addSquares_22 ?_
  refine topl_eq (iL_sub y mi) ?_
  refine lv_lmul hx hb d_Mo_addSquares_23 ?_
  refine topl_eq (iL_mul (y - mi) (y - mi)) ?_
  refine lv_lstore (lv' := [(8, .long (iL ((y - mi) * (y - mi)))), (6, .long (iL ((x - mi) * (x - mi)))), (0, .ref (ad 46)), (1, .long (iL x)), (3, .long (iL y)), (5, .int (iI mi))]) hx hb d_Mo_addSquares_24 hl (by decide) rfl (fun ls hl => ?_)
  have hp := sq_b (x := x - mi) (by omega) (by omega)
  have hq := sq_b (x := y - mi) (by omega) (by omega)
  refine lv_aload_n hx hb d_Mo_addSquares_26 rfl (lv_at hl 2 rfl) ?_
  refine lv_dup hx hb d_Mo_addSquares_27 rfl ?_
  refine mo_getj hC hK hM 24 wf_Mo_179 rfl rfl (by decide) (v := iL lo) (hlo) d_Mo_addSquares_28 ?_
  refine lv_iload hx hb d_Mo_addSquares_31 (lv_at hl 5 rfl) ?_
  refine lv_i2l (v := iL mi) hx hb d_Mo_addSquares_33 (iI_l (z := mi) (by omega) (by omega)) ?_
  refine lv_lload_n hx hb d_Mo_addSquares_34 rfl (lv_at hl 3 rfl) ?_
  refine lv_lload_n hx hb d_Mo_addSquares_35 rfl (lv_at hl 4 rfl) ?_
  refine st_calli (np := 3) hC (c_Mo_in l (iL mi) (iL x) (iL y) mi x y (iL_toInt (by omega) (by omega)) (iL_toInt (by omega) (by omega)) (iL_toInt (by omega) (by omega))) ⟨wl_Mo_91, wt_Mo_in, wc_Mo_in, wn_Mo⟩ ⟨by decide, by decide, by decide +kernel⟩ ⟨Nat.le_of_ble_eq_true rfl, Nat.le_of_ble_eq_true rfl⟩ hl.1 rfl (rest := [.long (iL lo), .ref (ad 46)]) rfl (Nat.le_of_ble_eq_true rfl) ⟨Nat.zero_le _, Nat.zero_le _⟩ d_Mo_addSquares_36 (fun rr hrr => ?_)
  subst hrr
  have hJ1 : ∀ (H : Heap) (locs : List Loc) (ls : Array Slot), MO D cT ad I J a g s.heap H locs → lv_has ls 10 [(0, .ref (ad 46)), (1, .long (iL x)), (3, .long (iL y)), (5, .int (iI mi)), (6, .long (iL ((x - mi) * (x - mi)))), (8, .long (iL ((y - mi) * (y - mi))))] → W p l e (rmOf 1 25) s m args below meth c H locs 0 0 Q (F0 m 61 ls [.long (iL (if x ≤ mi ∧ mi ≤ y then 0 else if ((x - mi) * (x - mi)) < ((y - mi) * (y - mi)) then (x - mi) * (x - mi) else (y - mi) * (y - mi))), .long (iL lo), .ref (ad 46)]) := ?_
  · skip
    refine bz_eq (tgt := 46) hx hb d_Mo_addSquares_39 (by decide) (fun h2 => ?_) (fun h2 => ?_)
    · skip
      refine lv_lload hx hb d_Mo_addSquares_46 (lv_at hl 1 rfl) ?_
      refine lv_lload hx hb d_Mo_addSquares_48 (lv_at hl 0 rfl) ?_
      refine zl_ge hx hb ((x - mi) * (x - mi)) ((y - mi) * (y - mi)) (by omega) (by omega) (by omega) (by omega) d_Mo_addSquares_50 d_Mo_addSquares_51 (tgt := 59) (by decide) (fun h3 => ?_) (fun h3 => ?_)
      · skip
        refine lv_lload hx hb d_Mo_addSquares_59 (lv_at hl 0 rfl) ?_
        refine topl_eq (show (iL ((y - mi) * (y - mi)) : Int64) = iL (if x ≤ mi ∧ mi ≤ y then 0 else if ((x - mi) * (x - mi)) < ((y - mi) * (y - mi)) then (x - mi) * (x - mi) else (y - mi) * (y - mi)) by first | rfl | exact (bI_t (by assumption)).symm | exact (bI_f (by assumption)).symm | exact (bI_f (fun z => z (by assumption))).symm | (rw [if_neg h2, if_neg h3]; done) | (rw [if_neg h2, if_neg h3]; rfl) | (simp only [if_neg h2, if_neg h3]; done) | (simp only [if_neg h2, if_neg h3]; rfl)) ?_
        exact hJ1 _ _ _ (by first | exact hM | (simp only [if_neg h2, if_neg h3]; exact hM)) (by first | exact lv_sub hl [2, 3, 4, 5, 1, 0] rfl | (simp only [if_neg h2, if_neg h3]; exact lv_sub hl [2, 3, 4, 5, 1, 0] rfl))
      · skip
        refine lv_lload hx hb d_Mo_addSquares_54 (lv_at hl 1 rfl) ?_
        refine lv_goto (tgt := 61) hx hb d_Mo_addSquares_56 (by decide) ?_
        refine topl_eq (show (iL ((x - mi) * (x - mi)) : Int64) = iL (if x ≤ mi ∧ mi ≤ y then 0 else if ((x - mi) * (x - mi)) < ((y - mi) * (y - mi)) then (x - mi) * (x - mi) else (y - mi) * (y - mi)) by first | rfl | exact (bI_t (by assumption)).symm | exact (bI_f (by assumption)).symm | exact (bI_f (fun z => z (by assumption))).symm | (rw [if_neg h2, if_pos h3]; done) | (rw [if_neg h2, if_pos h3]; rfl) | (simp only [if_neg h2, if_pos h3]; done) | (simp only [if_neg h2, if_pos h3]; rfl)) ?_
        exact hJ1 _ _ _ (by first | exact hM | (simp only [if_neg h2, if_pos h3]; exact hM)) (by first | exact lv_sub hl [2, 3, 4, 5, 1, 0] rfl | (simp only [if_neg h2, if_pos h3]; exact lv_sub hl [2, 3, 4, 5, 1, 0] rfl))
    · skip
      refine lv_lconst (v := 0) hx hb d_Mo_addSquares_42 (by decide) ?_
      refine lv_goto (tgt := 61) hx hb d_Mo_addSquares_43 (by decide) ?_
      refine topl_eq (show (0 : Int64) = iL (if x ≤ mi ∧ mi ≤ y then 0 else if ((x - mi) * (x - mi)) < ((y - mi) * (y - mi)) then (x - mi) * (x - mi) else (y - mi) * (y - mi)) by first | rfl | exact (bI_t (by assumption)).symm | exact (bI_f (by assumption)).symm | exact (bI_f (fun z => z (by assumption))).symm | (rw [if_pos h2]; done) | (rw [if_pos h2]; rfl) | (simp only [if_pos h2]; done) | (simp only [if_pos h2]; rfl)) ?_
      exact hJ1 _ _ _ (by first | exact hM | (simp only [if_pos h2]; exact hM)) (by first | exact lv_sub hl [2, 3, 4, 5, 1, 0] rfl | (simp only [if_pos h2]; exact lv_sub hl [2, 3, 4, 5, 1, 0] rfl))
  intro H locs ls hM hl
  refine lv_ladd hx hb d_Mo_addSquares_61 ?_
  refine topl_eq (iL_add lo (if x ≤ mi ∧ mi ≤ y then 0 else if ((x - mi) * (x - mi)) < ((y - mi) * (y - mi)) then (x - mi) * (x - mi) else (y - mi) * (y - mi))) ?_
  refine mo_putj hC hK hM 24 wf_Mo_179 rfl rfl (by decide) rfl (by decide +kernel) (x := iL (lo + (if x ≤ mi ∧ mi ≤ y then 0 else if ((x - mi) * (x - mi)) < ((y - mi) * (y - mi)) then (x - mi) * (x - mi) else (y - mi) * (y - mi)))) d_Mo_addSquares_62 (fun H locs hM => ?_)
  refine lv_aload_n hx hb d_Mo_addSquares_65 rfl (lv_at hl 0 rfl) ?_
  refine lv_dup hx hb d_Mo_addSquares_66 rfl ?_
  refine mo_getj hC hK hM 25 wf_Mo_183 rfl rfl (by decide) (v := iL hi) (hhi) d_Mo_addSquares_67 ?_
  refine lv_lload hx hb d_Mo_addSquares_70 (lv_at hl 4 rfl) ?_
  refine lv_lload hx hb d_Mo_addSquares_72 (lv_at hl 5 rfl) ?_
  have hJ4 : ∀ (H : Heap) (locs : List Loc) (ls : Array Slot), MO D cT ad I (vp_updL J 24 (iL (lo + (if x ≤ mi ∧ mi ≤ y then 0 else if ((x - mi) * (x - mi)) < ((y - mi) * (y - mi)) then (x - mi) * (x - mi) else (y - mi) * (y - mi))))) a g s.heap H locs → lv_has ls 10 [(0, .ref (ad 46)), (1, .long (iL x)), (3, .long (iL y)), (5, .int (iI mi)), (6, .long (iL ((x - mi) * (x - mi)))), (8, .long (iL ((y - mi) * (y - mi))))] → W p l e (rmOf 1 25) s m args below meth c H locs 0 0 Q (F0 m 85 ls [.long (iL (if ((y - mi) * (y - mi)) < ((x - mi) * (x - mi)) then (x - mi) * (x - mi) else (y - mi) * (y - mi))), .long (iL hi), .ref (ad 46)]) := ?_
  · skip
    refine zl_le hx hb ((x - mi) * (x - mi)) ((y - mi) * (y - mi)) (by omega) (by omega) (by omega) (by omega) d_Mo_addSquares_74 d_Mo_addSquares_75 (tgt := 83) (by decide) (fun h5 => ?_) (fun h5 => ?_)
    · skip
      refine lv_lload hx hb d_Mo_addSquares_83 (lv_at hl 5 rfl) ?_
      refine topl_eq (show (iL ((y - mi) * (y - mi)) : Int64) = iL (if ((y - mi) * (y - mi)) < ((x - mi) * (x - mi)) then (x - mi) * (x - mi) else (y - mi) * (y - mi)) by first | rfl | exact (bI_t (by assumption)).symm | exact (bI_f (by assumption)).symm | exact (bI_f (fun z => z (by assumption))).symm | (rw [if_neg h5]; done) | (rw [if_neg h5]; rfl) | (simp only [if_neg h5]; done) | (simp only [if_neg h5]; rfl)) ?_
      exact hJ4 _ _ _ (by first | exact hM | (simp only [if_neg h5]; exact hM)) (by first | exact lv_sub hl [0, 1, 2, 3, 4, 5] rfl | (simp only [if_neg h5]; exact lv_sub hl [0, 1, 2, 3, 4, 5] rfl))
    · skip
      refine lv_lload hx hb d_Mo_addSquares_78 (lv_at hl 4 rfl) ?_
      refine lv_goto (tgt := 85) hx hb d_Mo_addSquares_80 (by decide) ?_
      refine topl_eq (show (iL ((x - mi) * (x - mi)) : Int64) = iL (if ((y - mi) * (y - mi)) < ((x - mi) * (x - mi)) then (x - mi) * (x - mi) else (y - mi) * (y - mi)) by first | rfl | exact (bI_t (by assumption)).symm | exact (bI_f (by assumption)).symm | exact (bI_f (fun z => z (by assumption))).symm | (rw [if_pos h5]; done) | (rw [if_pos h5]; rfl) | (simp only [if_pos h5]; done) | (simp only [if_pos h5]; rfl)) ?_
      exact hJ4 _ _ _ (by first | exact hM | (simp only [if_pos h5]; exact hM)) (by first | exact lv_sub hl [0, 1, 2, 3, 4, 5] rfl | (simp only [if_pos h5]; exact lv_sub hl [0, 1, 2, 3, 4, 5] rfl))
  intro H locs ls hM hl
  refine lv_ladd hx hb d_Mo_addSquares_85 ?_
  refine topl_eq (iL_add hi (if ((y - mi) * (y - mi)) < ((x - mi) * (x - mi)) then (x - mi) * (x - mi) else (y - mi) * (y - mi))) ?_
  refine mo_putj hC hK hM 25 wf_Mo_183 rfl rfl (by decide) rfl (by decide +kernel) (x := iL (hi + (if ((y - mi) * (y - mi)) < ((x - mi) * (x - mi)) then (x - mi) * (x - mi) else (y - mi) * (y - mi)))) d_Mo_addSquares_86 (fun H locs hM => ?_)
  exact hret _ _ _ _ _ _ _ _ d_Mo_addSquares_89 hM (rfl)
set_option maxHeartbeats 400000 in
set_option maxRecDepth 100000 in
theorem c_Mo_addProducts (l : Launch) (D : va_G) (cT : Nat → ClassId) (ad : Nat → Nat) (I : Nat → Int32) (J : Nat → Int64) (a : Nat → Nat → Int32) (g : Nat → Nat → Int64) (x : Int) (y : Int) (f : Int) (lo hi : Int) (hlo : J 24 = iL lo) (hhi : J 25 = iL hi) (hm1 : -20 ≤ f) (hm2 : f ≤ 20) : MMv l D cT ad y_Mo_addProducts b_Mo_addProducts 6 none 0 0 [.long (iL x), .long (iL y), .int (iI f)] I J a g (fun u => u = (I, vp_updL (vp_updL J 24 (iL (lo + prL x y f))) 25 (iL (hi + prH x y f)), a, g)) := by
  refine mo_entv (by decide) rfl (Nat.le_of_ble_eq_true rfl) ?_
  intro p e s m args below meth c Q hC hK hM hret ls hl
  have hx := hC.1
  have hb := hC.2.1
  replace hl : lv_has ls 6 [(0, .ref (ad 46)), (1, .long (iL x)), (3, .long (iL y)), (5, .int (iI f))] := hl
  refine lv_aload_n hx hb d_Mo_addProducts_0 rfl (lv_at hl 0 rfl) ?_
  refine lv_dup hx hb d_Mo_addProducts_1 rfl ?_
  refine mo_getj hC hK hM 24 wf_Mo_179 rfl rfl (by decide) (v := iL lo) (hlo) d_Mo_addProducts_2 ?_
  refine lv_iload hx hb d_Mo_addProducts_5 (lv_at hl 3 rfl) ?_
  have hJ1 : ∀ (H : Heap) (locs : List Loc) (ls : Array Slot), MO D cT ad I J a g s.heap H locs → lv_has ls 6 [(0, .ref (ad 46)), (1, .long (iL x)), (3, .long (iL y)), (5, .int (iI f))] → W p l e (rmOf 0 0) s m args below meth c H locs 0 0 Q (F0 m 23 ls [.long (iL (if f < 0 then f * y else f * x)), .long (iL lo), .ref (ad 46)]) := ?_
  · skip
    refine zz_ge hx hb f (by omega) (by omega) d_Mo_addProducts_7 (tgt := 18) (by decide) (fun h2 => ?_) (fun h2 => ?_)
    · skip
      refine lv_iload hx hb d_Mo_addProducts_18 (lv_at hl 3 rfl) ?_
      refine lv_i2l (v := iL f) hx hb d_Mo_addProducts_20 (iI_l (z := f) (by omega) (by omega)) ?_
      refine lv_lload_n hx hb d_Mo_addProducts_21 rfl (lv_at hl 1 rfl) ?_
      refine lv_lmul hx hb d_Mo_addProducts_22 ?_
      refine topl_eq (iL_mul f x) ?_
      refine topl_eq (show (iL (f * x) : Int64) = iL (if f < 0 then f * y else f * x) by first | rfl | exact (bI_t (by assumption)).symm | exact (bI_f (by assumption)).symm | exact (bI_f (fun z => z (by assumption))).symm | (rw [if_neg h2]; done) | (rw [if_neg h2]; rfl) | (simp only [if_neg h2]; done) | (simp only [if_neg h2]; rfl)) ?_
      exact hJ1 _ _ _ (by first | exact hM | (simp only [if_neg h2]; exact hM)) (by first | exact lv_sub hl [0, 1, 2, 3] rfl | (simp only [if_neg h2]; exact lv_sub hl [0, 1, 2, 3] rfl))
    · skip
      refine lv_iload hx hb d_Mo_addProducts_10 (lv_at hl 3 rfl) ?_
      refine lv_i2l (v := iL f) hx hb d_Mo_addProducts_12 (iI_l (z := f) (by omega) (by omega)) ?_
      refine lv_lload_n hx hb d_Mo_addProducts_13 rfl (lv_at hl 2 rfl) ?_
      refine lv_lmul hx hb d_Mo_addProducts_14 ?_
      refine topl_eq (iL_mul f y) ?_
      refine lv_goto (tgt := 23) hx hb d_Mo_addProducts_15 (by decide) ?_
      refine topl_eq (show (iL (f * y) : Int64) = iL (if f < 0 then f * y else f * x) by first | rfl | exact (bI_t (by assumption)).symm | exact (bI_f (by assumption)).symm | exact (bI_f (fun z => z (by assumption))).symm | (rw [if_pos h2]; done) | (rw [if_pos h2]; rfl) | (simp only [if_pos h2]; done) | (simp only [if_pos h2]; rfl)) ?_
      exact hJ1 _ _ _ (by first | exact hM | (simp only [if_pos h2]; exact hM)) (by first | exact lv_sub hl [0, 1, 2, 3] rfl | (simp only [if_pos h2]; exact lv_sub hl [0, 1, 2, 3] rfl))
  intro H locs ls hM hl
  refine lv_ladd hx hb d_Mo_addProducts_23 ?_
  refine topl_eq (iL_add lo (if f < 0 then f * y else f * x)) ?_
  refine mo_putj hC hK hM 24 wf_Mo_179 rfl rfl (by decide) rfl (by decide +kernel) (x := iL (lo + (if f < 0 then f * y else f * x))) d_Mo_addProducts_24 (fun H locs hM => ?_)
  refine lv_aload_n hx hb d_Mo_addProducts_27 rfl (lv_at hl 0 rfl) ?_
  refine lv_dup hx hb d_Mo_addProducts_28 rfl ?_
  refine mo_getj hC hK hM 25 wf_Mo_183 rfl rfl (by decide) (v := iL hi) (hhi) d_Mo_addProducts_29 ?_
  refine lv_iload hx hb d_Mo_addProducts_32 (lv_at hl 3 rfl) ?_
  have hJ3 : ∀ (H : Heap) (locs : List Loc) (ls : Array Slot), MO D cT ad I (vp_updL J 24 (iL (lo + (if f < 0 then f * y else f * x)))) a g s.heap H locs → lv_has ls 6 [(0, .ref (ad 46)), (1, .long (iL x)), (3, .long (iL y)), (5, .int (iI f))] → W p l e (rmOf 0 0) s m args below meth c H locs 0 0 Q (F0 m 50 ls [.long (iL (if f < 0 then f * x else f * y)), .long (iL hi), .ref (ad 46)]) := ?_
  · skip
    refine zz_ge hx hb f (by omega) (by omega) d_Mo_addProducts_34 (tgt := 45) (by decide) (fun h4 => ?_) (fun h4 => ?_)
    · skip
      refine lv_iload hx hb d_Mo_addProducts_45 (lv_at hl 3 rfl) ?_
      refine lv_i2l (v := iL f) hx hb d_Mo_addProducts_47 (iI_l (z := f) (by omega) (by omega)) ?_
      refine lv_lload_n hx hb d_Mo_addProducts_48 rfl (lv_at hl 2 rfl) ?_
      refine lv_lmul hx hb d_Mo_addProducts_49 ?_
      refine topl_eq (iL_mul f y) ?_
      refine topl_eq (show (iL (f * y) : Int64) = iL (if f < 0 then f * x else f * y) by first | rfl | exact (bI_t (by assumption)).symm | exact (bI_f (by assumption)).symm | exact (bI_f (fun z => z (by assumption))).symm | (rw [if_neg h4]; done) | (rw [if_neg h4]; rfl) | (simp only [if_neg h4]; done) | (simp only [if_neg h4]; rfl)) ?_
      exact hJ3 _ _ _ (by first | exact hM | (simp only [if_neg h4]; exact hM)) (by first | exact lv_sub hl [0, 1, 2, 3] rfl | (simp only [if_neg h4]; exact lv_sub hl [0, 1, 2, 3] rfl))
    · skip
      refine lv_iload hx hb d_Mo_addProducts_37 (lv_at hl 3 rfl) ?_
      refine lv_i2l (v := iL f) hx hb d_Mo_addProducts_39 (iI_l (z := f) (by omega) (by omega)) ?_
      refine lv_lload_n hx hb d_Mo_addProducts_40 rfl (lv_at hl 1 rfl) ?_
      refine lv_lmul hx hb d_Mo_addProducts_41 ?_
      refine topl_eq (iL_mul f x) ?_
      refine lv_goto (tgt := 50) hx hb d_Mo_addProducts_42 (by decide) ?_
      refine topl_eq (show (iL (f * x) : Int64) = iL (if f < 0 then f * x else f * y) by first | rfl | exact (bI_t (by assumption)).symm | exact (bI_f (by assumption)).symm | exact (bI_f (fun z => z (by assumption))).symm | (rw [if_pos h4]; done) | (rw [if_pos h4]; rfl) | (simp only [if_pos h4]; done) | (simp only [if_pos h4]; rfl)) ?_
      exact hJ3 _ _ _ (by first | exact hM | (simp only [if_pos h4]; exact hM)) (by first | exact lv_sub hl [0, 1, 2, 3] rfl | (simp only [if_pos h4]; exact lv_sub hl [0, 1, 2, 3] rfl))
  intro H locs ls hM hl
  refine lv_ladd hx hb d_Mo_addProducts_50 ?_
  refine topl_eq (iL_add hi (if f < 0 then f * x else f * y)) ?_
  refine mo_putj hC hK hM 25 wf_Mo_183 rfl rfl (by decide) rfl (by decide +kernel) (x := iL (hi + (if f < 0 then f * x else f * y))) d_Mo_addProducts_51 (fun H locs hM => ?_)
  exact hret _ _ _ _ _ _ _ _ d_Mo_addProducts_54 hM (rfl)
set_option maxHeartbeats 400000 in
set_option maxRecDepth 100000 in
theorem c_Mo_greater (l : Launch) (D : va_G) (cT : Nat → ClassId) (ad : Nat → Nat) (I : Nat → Int32) (J : Nat → Int64) (a : Nat → Nat → Int32) (g : Nat → Nat → Int64) (x : Int) (y : Int) (lo hi : Int) (hlo : J 24 = iL lo) (hhi : J 25 = iL hi) (b1 : -1000000 ≤ lo ∧ lo ≤ 1000000) (b3 : -1000000 ≤ hi ∧ hi ≤ 1000000) (b5 : -1000000 ≤ x ∧ x ≤ 1000000) (b7 : -1000000 ≤ y ∧ y ≤ 1000000) : MMv l D cT ad y_Mo_greater b_Mo_greater 5 none 0 0 [.long (iL x), .long (iL y)] I J a g (fun u => u = (I, vp_updL (vp_updL J 24 (iL (mx lo x))) 25 (iL (mx hi y)), a, g)) := by
  refine mo_entv (by decide) rfl (Nat.le_of_ble_eq_true rfl) ?_
  intro p e s m args below meth c Q hC hK hM hret ls hl
  have hx := hC.1
  have hb := hC.2.1
  replace hl : lv_has ls 5 [(0, .ref (ad 46)), (1, .long (iL x)), (3, .long (iL y))] := hl
  refine lv_aload_n hx hb d_Mo_greater_0 rfl (lv_at hl 0 rfl) ?_
  refine lv_lload_n hx hb d_Mo_greater_1 rfl (lv_at hl 1 rfl) ?_
  refine lv_aload_n hx hb d_Mo_greater_2 rfl (lv_at hl 0 rfl) ?_
  refine mo_getj hC hK hM 24 wf_Mo_179 rfl rfl (by decide) (v := iL lo) (hlo) d_Mo_greater_3 ?_
  have hJ1 : ∀ (H : Heap) (locs : List Loc) (ls : Array Slot), MO D cT ad I J a g s.heap H locs → lv_has ls 5 [(0, .ref (ad 46)), (1, .long (iL x)), (3, .long (iL y))] → W p l e (rmOf 0 0) s m args below meth c H locs 0 0 Q (F0 m 18 ls [.long (iL (if lo < x then x else lo)), .ref (ad 46)]) := ?_
  · skip
    refine zl_le hx hb x lo (by omega) (by omega) (by omega) (by omega) d_Mo_greater_6 d_Mo_greater_7 (tgt := 14) (by decide) (fun h2 => ?_) (fun h2 => ?_)
    · skip
      refine lv_aload_n hx hb d_Mo_greater_14 rfl (lv_at hl 0 rfl) ?_
      refine mo_getj hC hK hM 24 wf_Mo_179 rfl rfl (by decide) (v := iL lo) (hlo) d_Mo_greater_15 ?_
      refine topl_eq (show (iL lo : Int64) = iL (if lo < x then x else lo) by first | rfl | exact (bI_t (by assumption)).symm | exact (bI_f (by assumption)).symm | exact (bI_f (fun z => z (by assumption))).symm | (rw [if_neg h2]; done) | (rw [if_neg h2]; rfl) | (simp only [if_neg h2]; done) | (simp only [if_neg h2]; rfl)) ?_
      exact hJ1 _ _ _ (by first | exact hM | (simp only [if_neg h2]; exact hM)) (by first | exact lv_sub hl [0, 1, 2] rfl | (simp only [if_neg h2]; exact lv_sub hl [0, 1, 2] rfl))
    · skip
      refine lv_lload_n hx hb d_Mo_greater_10 rfl (lv_at hl 1 rfl) ?_
      refine lv_goto (tgt := 18) hx hb d_Mo_greater_11 (by decide) ?_
      refine topl_eq (show (iL x : Int64) = iL (if lo < x then x else lo) by first | rfl | exact (bI_t (by assumption)).symm | exact (bI_f (by assumption)).symm | exact (bI_f (fun z => z (by assumption))).symm | (rw [if_pos h2]; done) | (rw [if_pos h2]; rfl) | (simp only [if_pos h2]; done) | (simp only [if_pos h2]; rfl)) ?_
      exact hJ1 _ _ _ (by first | exact hM | (simp only [if_pos h2]; exact hM)) (by first | exact lv_sub hl [0, 1, 2] rfl | (simp only [if_pos h2]; exact lv_sub hl [0, 1, 2] rfl))
  intro H locs ls hM hl
  refine mo_putj hC hK hM 24 wf_Mo_179 rfl rfl (by decide) rfl (by decide +kernel) (x := iL (if lo < x then x else lo)) d_Mo_greater_18 (fun H locs hM => ?_)
  refine lv_aload_n hx hb d_Mo_greater_21 rfl (lv_at hl 0 rfl) ?_
  refine lv_lload_n hx hb d_Mo_greater_22 rfl (lv_at hl 2 rfl) ?_
  refine lv_aload_n hx hb d_Mo_greater_23 rfl (lv_at hl 0 rfl) ?_
  refine mo_getj hC hK hM 25 wf_Mo_183 rfl rfl (by decide) (v := iL hi) (hhi) d_Mo_greater_24 ?_
  have hJ3 : ∀ (H : Heap) (locs : List Loc) (ls : Array Slot), MO D cT ad I (vp_updL J 24 (iL (if lo < x then x else lo))) a g s.heap H locs → lv_has ls 5 [(0, .ref (ad 46)), (1, .long (iL x)), (3, .long (iL y))] → W p l e (rmOf 0 0) s m args below meth c H locs 0 0 Q (F0 m 39 ls [.long (iL (if hi < y then y else hi)), .ref (ad 46)]) := ?_
  · skip
    refine zl_le hx hb y hi (by omega) (by omega) (by omega) (by omega) d_Mo_greater_27 d_Mo_greater_28 (tgt := 35) (by decide) (fun h4 => ?_) (fun h4 => ?_)
    · skip
      refine lv_aload_n hx hb d_Mo_greater_35 rfl (lv_at hl 0 rfl) ?_
      refine mo_getj hC hK hM 25 wf_Mo_183 rfl rfl (by decide) (v := iL hi) (hhi) d_Mo_greater_36 ?_
      refine topl_eq (show (iL hi : Int64) = iL (if hi < y then y else hi) by first | rfl | exact (bI_t (by assumption)).symm | exact (bI_f (by assumption)).symm | exact (bI_f (fun z => z (by assumption))).symm | (rw [if_neg h4]; done) | (rw [if_neg h4]; rfl) | (simp only [if_neg h4]; done) | (simp only [if_neg h4]; rfl)) ?_
      exact hJ3 _ _ _ (by first | exact hM | (simp only [if_neg h4]; exact hM)) (by first | exact lv_sub hl [0, 1, 2] rfl | (simp only [if_neg h4]; exact lv_sub hl [0, 1, 2] rfl))
    · skip
      refine lv_lload_n hx hb d_Mo_greater_31 rfl (lv_at hl 2 rfl) ?_
      refine lv_goto (tgt := 39) hx hb d_Mo_greater_32 (by decide) ?_
      refine topl_eq (show (iL y : Int64) = iL (if hi < y then y else hi) by first | rfl | exact (bI_t (by assumption)).symm | exact (bI_f (by assumption)).symm | exact (bI_f (fun z => z (by assumption))).symm | (rw [if_pos h4]; done) | (rw [if_pos h4]; rfl) | (simp only [if_pos h4]; done) | (simp only [if_pos h4]; rfl)) ?_
      exact hJ3 _ _ _ (by first | exact hM | (simp only [if_pos h4]; exact hM)) (by first | exact lv_sub hl [0, 1, 2] rfl | (simp only [if_pos h4]; exact lv_sub hl [0, 1, 2] rfl))
  intro H locs ls hM hl
  refine mo_putj hC hK hM 25 wf_Mo_183 rfl rfl (by decide) rfl (by decide +kernel) (x := iL (if hi < y then y else hi)) d_Mo_greater_39 (fun H locs hM => ?_)
  exact hret _ _ _ _ _ _ _ _ d_Mo_greater_42 hM (rfl)
set_option maxHeartbeats 1000000 in
set_option maxRecDepth 100000 in
theorem c_Mo_goDown (l : Launch) (D : va_G) (cT : Nat → ClassId) (ad : Nat → Nat) (I : Nat → Int32) (J : Nat → Int64) (a : Nat → Nat → Int32) (g : Nat → Nat → Int64) (b : Nat) (k : Nat) (o kd : Nat) (nb B : Nat → Int) (hb8 : b < 8) (hk : k < 64) (hok : o < k) (ho : a 3 (64 * b + k) = nI o) (hkd : a 2 (64 * b + o) = nI kd) (hkd9 : kd ≤ 9) (hnb : ∀ i, i < nOf kd → a 4 (6 * (64 * b + o) + i) = iI (nb i)) (hB : ∀ i, i < 6 → g (16 + i) o = iL (B i)) (bnb : ∀ i, -20 ≤ nb i ∧ nb i ≤ 20) (bB : ∀ i, -3000 ≤ B i ∧ B i ≤ 3000) (hrep : kd = 9 → 1 ≤ nb 0) : MMv l D cT ad y_Mo_goDown b_Mo_goDown 12 none 1 24 [.int (nI b), .int (nI k)] I J a g (fun r => r = (I, J, a, gbox g k (dn kd nb B))) := by
  refine mo_entv (by decide) rfl (Nat.le_of_ble_eq_true rfl) ?_
  intro p e s m args below meth c Q hC hK hM hret ls hl
  have hx := hC.1
  have hb := hC.2.1
  replace hl : lv_has ls 12 [(0, .ref (ad 46)), (1, .int (nI b)), (2, .int (nI k))] := hl
  have bn0 := bnb 0
  have bn1 := bnb 1
  have bn2 := bnb 2
  have b0 := bB 0
  have b1 := bB 1
  have b2 := bB 2
  have b3 := bB 3
  have b4 := bB 4
  have b5 := bB 5
  have m0 : kd = 9 → 0 ≤ B 0 % nb 0 ∧ B 0 % nb 0 < nb 0 := fun h => ⟨Int.emod_nonneg _ (by have := hrep h; omega), Int.emod_lt_of_pos _ (by have := hrep h; omega)⟩
  have m1 : kd = 9 → 0 ≤ B 1 % nb 0 ∧ B 1 % nb 0 < nb 0 := fun h => ⟨Int.emod_nonneg _ (by have := hrep h; omega), Int.emod_lt_of_pos _ (by have := hrep h; omega)⟩
  refine lv_aload_n hx hb d_Mo_goDown_0 rfl (lv_at hl 0 rfl) ?_
  refine mo_getr hC hK hM 3 wf_Mo_16 rfl (by decide) (by decide) d_Mo_goDown_1 ?_
  refine lv_bipush (v := 64) hx hb d_Mo_goDown_4 (by decide) ?_
  refine lv_iload_n hx hb d_Mo_goDown_6 rfl (lv_at hl 1 rfl) ?_
  refine lv_imul hx hb d_Mo_goDown_7 ?_
  refine topi_eq (pk_mul 64 b) ?_
  refine lv_iload_n hx hb d_Mo_goDown_8 rfl (lv_at hl 2 rfl) ?_
  refine lv_iadd hx hb d_Mo_goDown_9 ?_
  refine topi_eq (nI_add (64 * b) k) ?_
  refine mo_ialdN hC hK hM 3 ((64 * b) + k) (by decide) rfl (n := 512) rfl (by decide) (i := nI ((64 * b) + k)) (rfl) (by omega) (v := nI o) (ho) d_Mo_goDown_10 ?_
  refine lv_istore_n (lv' := [(3, .int (nI o)), (0, .ref (ad 46)), (1, .int (nI b)), (2, .int (nI k))]) hx hb d_Mo_goDown_11 rfl hl (by decide) rfl (fun ls hl => ?_)
  refine lv_bipush (v := 6) hx hb d_Mo_goDown_12 (by decide) ?_
  refine lv_bipush (v := 64) hx hb d_Mo_goDown_14 (by decide) ?_
  refine lv_iload_n hx hb d_Mo_goDown_16 rfl (lv_at hl 2 rfl) ?_
  refine lv_imul hx hb d_Mo_goDown_17 ?_
  refine topi_eq (pk_mul 64 b) ?_
  refine lv_iload_n hx hb d_Mo_goDown_18 rfl (lv_at hl 0 rfl) ?_
  refine lv_iadd hx hb d_Mo_goDown_19 ?_
  refine topi_eq (nI_add (64 * b) o) ?_
  refine lv_imul hx hb d_Mo_goDown_20 ?_
  refine topi_eq (pk_mul 6 ((64 * b) + o)) ?_
  refine lv_istore (lv' := [(4, .int (nI (6 * ((64 * b) + o)))), (3, .int (nI o)), (0, .ref (ad 46)), (1, .int (nI b)), (2, .int (nI k))]) hx hb d_Mo_goDown_21 hl (by decide) rfl (fun ls hl => ?_)
  refine lv_aload_n hx hb d_Mo_goDown_23 rfl (lv_at hl 2 rfl) ?_
  refine mo_getr hC hK hM 2 wf_Mo_13 rfl (by decide) (by decide) d_Mo_goDown_24 ?_
  refine lv_bipush (v := 64) hx hb d_Mo_goDown_27 (by decide) ?_
  refine lv_iload_n hx hb d_Mo_goDown_29 rfl (lv_at hl 3 rfl) ?_
  refine lv_imul hx hb d_Mo_goDown_30 ?_
  refine topi_eq (pk_mul 64 b) ?_
  refine lv_iload_n hx hb d_Mo_goDown_31 rfl (lv_at hl 1 rfl) ?_
  refine lv_iadd hx hb d_Mo_goDown_32 ?_
  refine topi_eq (nI_add (64 * b) o) ?_
  refine mo_ialdN hC hK hM 2 ((64 * b) + o) (by decide) rfl (n := 512) rfl (by decide) (i := nI ((64 * b) + o)) (rfl) (by omega) (v := nI kd) (hkd) d_Mo_goDown_33 ?_
  refine lv_istore (lv' := [(5, .int (nI kd)), (4, .int (nI (6 * ((64 * b) + o)))), (3, .int (nI o)), (0, .ref (ad 46)), (1, .int (nI b)), (2, .int (nI k))]) hx hb d_Mo_goDown_34 hl (by decide) rfl (fun ls hl => ?_)
  refine lv_aload_n hx hb d_Mo_goDown_36 rfl (lv_at hl 3 rfl) ?_
  refine mo_getr hC hK hM 16 wf_Mo_31 rfl (by decide) (by decide) d_Mo_goDown_37 ?_
  refine lv_iload_n hx hb d_Mo_goDown_40 rfl (lv_at hl 2 rfl) ?_
  refine mo_laldN hC hK hM 16 o (by decide) rfl (n := 64) rfl (by decide) (i := nI o) (rfl) (by omega) (v := iL (B 0)) (hB 0 (by decide)) d_Mo_goDown_41 ?_
  refine lv_lstore (lv' := [(6, .long (iL (B 0))), (5, .int (nI kd)), (4, .int (nI (6 * ((64 * b) + o)))), (3, .int (nI o)), (0, .ref (ad 46)), (1, .int (nI b)), (2, .int (nI k))]) hx hb d_Mo_goDown_42 hl (by decide) rfl (fun ls hl => ?_)
  refine lv_aload_n hx hb d_Mo_goDown_44 rfl (lv_at hl 4 rfl) ?_
  refine mo_getr hC hK hM 17 wf_Mo_35 rfl (by decide) (by decide) d_Mo_goDown_45 ?_
  refine lv_iload_n hx hb d_Mo_goDown_48 rfl (lv_at hl 3 rfl) ?_
  refine mo_laldN hC hK hM 17 o (by decide) rfl (n := 64) rfl (by decide) (i := nI o) (rfl) (by omega) (v := iL (B 1)) (hB 1 (by decide)) d_Mo_goDown_49 ?_
  refine lv_lstore (lv' := [(8, .long (iL (B 1))), (6, .long (iL (B 0))), (5, .int (nI kd)), (4, .int (nI (6 * ((64 * b) + o)))), (3, .int (nI o)), (0, .ref (ad 46)), (1, .int (nI b)), (2, .int (nI k))]) hx hb d_Mo_goDown_50 hl (by decide) rfl (fun ls hl => ?_)
  refine lv_aload_n hx hb d_Mo_goDown_52 rfl (lv_at hl 5 rfl) ?_
  refine mo_getr hC hK hM 16 wf_Mo_31 rfl (by decide) (by decide) d_Mo_goDown_53 ?_
  refine lv_iload_n hx hb d_Mo_goDown_56 rfl (lv_at hl 7 rfl) ?_
  refine lv_lload hx hb d_Mo_goDown_57 (lv_at hl 1 rfl) ?_
  refine mo_lastN hC hK hM 16 k (by decide) rfl (n := 64) rfl (by decide) (i := nI k) (x := iL (B 0)) (rfl) (by omega) d_Mo_goDown_59 (fun H locs hM => ?_)
  refine lv_aload_n hx hb d_Mo_goDown_60 rfl (lv_at hl 5 rfl) ?_
  refine mo_getr hC hK hM 17 wf_Mo_35 rfl (by decide) (by decide) d_Mo_goDown_61 ?_
  refine lv_iload_n hx hb d_Mo_goDown_64 rfl (lv_at hl 7 rfl) ?_
  refine lv_lload hx hb d_Mo_goDown_65 (lv_at hl 0 rfl) ?_
  refine mo_lastN hC hK hM 17 k (by decide) rfl (n := 64) rfl (by decide) (i := nI k) (x := iL (B 1)) (rfl) (by omega) d_Mo_goDown_67 (fun H locs hM => ?_)
  replace hM : MO D cT ad I J a (va_up (va_up g 16 (vp_updL (g 16) k (iL (B 0)))) 17 (vp_updL (g 17) k (iL (B 1)))) s.heap H locs := hM
  refine lv_aload_n hx hb d_Mo_goDown_68 rfl (lv_at hl 5 rfl) ?_
  refine mo_getr hC hK hM 18 wf_Mo_38 rfl (by decide) (by decide) d_Mo_goDown_69 ?_
  refine lv_iload_n hx hb d_Mo_goDown_72 rfl (lv_at hl 7 rfl) ?_
  refine lv_aload_n hx hb d_Mo_goDown_73 rfl (lv_at hl 5 rfl) ?_
  refine mo_getr hC hK hM 18 wf_Mo_38 rfl (by decide) (by decide) d_Mo_goDown_74 ?_
  refine lv_iload_n hx hb d_Mo_goDown_77 rfl (lv_at hl 4 rfl) ?_
  refine mo_laldN hC hK hM 18 o (by decide) rfl (n := 64) rfl (by decide) (i := nI o) (rfl) (by omega) (v := iL (B 2)) (hB 2 (by decide)) d_Mo_goDown_78 ?_
  refine mo_lastN hC hK hM 18 k (by decide) rfl (n := 64) rfl (by decide) (i := nI k) (x := iL (B 2)) (rfl) (by omega) d_Mo_goDown_79 (fun H locs hM => ?_)
  replace hM : MO D cT ad I J a (va_up (va_up (va_up g 16 (vp_updL (g 16) k (iL (B 0)))) 17 (vp_updL (g 17) k (iL (B 1)))) 18 (vp_updL (g 18) k (iL (B 2)))) s.heap H locs := hM
  refine lv_aload_n hx hb d_Mo_goDown_80 rfl (lv_at hl 5 rfl) ?_
  refine mo_getr hC hK hM 19 wf_Mo_41 rfl (by decide) (by decide) d_Mo_goDown_81 ?_
  refine lv_iload_n hx hb d_Mo_goDown_84 rfl (lv_at hl 7 rfl) ?_
  refine lv_aload_n hx hb d_Mo_goDown_85 rfl (lv_at hl 5 rfl) ?_
  refine mo_getr hC hK hM 19 wf_Mo_41 rfl (by decide) (by decide) d_Mo_goDown_86 ?_
  refine lv_iload_n hx hb d_Mo_goDown_89 rfl (lv_at hl 4 rfl) ?_
  refine mo_laldN hC hK hM 19 o (by decide) rfl (n := 64) rfl (by decide) (i := nI o) (rfl) (by omega) (v := iL (B 3)) (hB 3 (by decide)) d_Mo_goDown_90 ?_
  refine mo_lastN hC hK hM 19 k (by decide) rfl (n := 64) rfl (by decide) (i := nI k) (x := iL (B 3)) (rfl) (by omega) d_Mo_goDown_91 (fun H locs hM => ?_)
  replace hM : MO D cT ad I J a (va_up (va_up (va_up (va_up g 16 (vp_updL (g 16) k (iL (B 0)))) 17 (vp_updL (g 17) k (iL (B 1)))) 18 (vp_updL (g 18) k (iL (B 2)))) 19 (vp_updL (g 19) k (iL (B 3)))) s.heap H locs := hM
  refine lv_aload_n hx hb d_Mo_goDown_92 rfl (lv_at hl 5 rfl) ?_
  refine mo_getr hC hK hM 20 wf_Mo_44 rfl (by decide) (by decide) d_Mo_goDown_93 ?_
  refine lv_iload_n hx hb d_Mo_goDown_96 rfl (lv_at hl 7 rfl) ?_
  refine lv_aload_n hx hb d_Mo_goDown_97 rfl (lv_at hl 5 rfl) ?_
  refine mo_getr hC hK hM 20 wf_Mo_44 rfl (by decide) (by decide) d_Mo_goDown_98 ?_
  refine lv_iload_n hx hb d_Mo_goDown_101 rfl (lv_at hl 4 rfl) ?_
  refine mo_laldN hC hK hM 20 o (by decide) rfl (n := 64) rfl (by decide) (i := nI o) (rfl) (by omega) (v := iL (B 4)) (hB 4 (by decide)) d_Mo_goDown_102 ?_
  refine mo_lastN hC hK hM 20 k (by decide) rfl (n := 64) rfl (by decide) (i := nI k) (x := iL (B 4)) (rfl) (by omega) d_Mo_goDown_103 (fun H locs hM => ?_)
  replace hM : MO D cT ad I J a (va_up (va_up (va_up (va_up (va_up g 16 (vp_updL (g 16) k (iL (B 0)))) 17 (vp_updL (g 17) k (iL (B 1)))) 18 (vp_updL (g 18) k (iL (B 2)))) 19 (vp_updL (g 19) k (iL (B 3)))) 20 (vp_updL (g 20) k (iL (B 4)))) s.heap H locs := hM
  refine lv_aload_n hx hb d_Mo_goDown_104 rfl (lv_at hl 5 rfl) ?_
  refine mo_getr hC hK hM 21 wf_Mo_47 rfl (by decide) (by decide) d_Mo_goDown_105 ?_
  refine lv_iload_n hx hb d_Mo_goDown_108 rfl (lv_at hl 7 rfl) ?_
  refine lv_aload_n hx hb d_Mo_goDown_109 rfl (lv_at hl 5 rfl) ?_
  refine mo_getr hC hK hM 21 wf_Mo_47 rfl (by decide) (by decide) d_Mo_goDown_110 ?_
  refine lv_iload_n hx hb d_Mo_goDown_113 rfl (lv_at hl 4 rfl) ?_
  refine mo_laldN hC hK hM 21 o (by decide) rfl (n := 64) rfl (by decide) (i := nI o) (rfl) (by omega) (v := iL (B 5)) (hB 5 (by decide)) d_Mo_goDown_114 ?_
  refine mo_lastN hC hK hM 21 k (by decide) rfl (n := 64) rfl (by decide) (i := nI k) (x := iL (B 5)) (rfl) (by omega) d_Mo_goDown_115 (fun H locs hM => ?_)
  replace hM : MO D cT ad I J a (va_up (va_up (va_up (va_up (va_up (va_up g 16 (vp_updL (g 16) k (iL (B 0)))) 17 (vp_updL (g 17) k (iL (B 1)))) 18 (vp_updL (g 18) k (iL (B 2)))) 19 (vp_updL (g 19) k (iL (B 3)))) 20 (vp_updL (g 20) k (iL (B 4)))) 21 (vp_updL (g 21) k (iL (B 5)))) s.heap H locs := hM
  refine lv_iload hx hb d_Mo_goDown_116 (lv_at hl 2 rfl) ?_
  refine lv_bipush (v := 6) hx hb d_Mo_goDown_118 (by decide) ?_
  refine nc_ne hx hb kd 6 (by omega) (by omega) d_Mo_goDown_120 (tgt := 233) (by decide) (fun h1 => ?_) (fun h1 => ?_)
  · skip
    refine lv_iload hx hb d_Mo_goDown_233 (lv_at hl 2 rfl) ?_
    refine lv_bipush (v := 7) hx hb d_Mo_goDown_235 (by decide) ?_
    refine nc_ne hx hb kd 7 (by omega) (by omega) d_Mo_goDown_237 (tgt := 304) (by decide) (fun h2 => ?_) (fun h2 => ?_)
    · skip
      refine lv_iload hx hb d_Mo_goDown_304 (lv_at hl 2 rfl) ?_
      refine lv_bipush (v := 8) hx hb d_Mo_goDown_306 (by decide) ?_
      refine nc_ne hx hb kd 8 (by omega) (by omega) d_Mo_goDown_308 (tgt := 329) (by decide) (fun h3 => ?_) (fun h3 => ?_)
      · skip
        refine lv_iload hx hb d_Mo_goDown_329 (lv_at hl 2 rfl) ?_
        refine lv_bipush (v := 9) hx hb d_Mo_goDown_331 (by decide) ?_
        refine nc_ne hx hb kd 9 (by omega) (by omega) d_Mo_goDown_333 (tgt := 432) (by decide) (fun h4 => ?_) (fun h4 => ?_)
        · skip
          refine hret _ _ _ _ _ _ _ _ d_Mo_goDown_432 hM ?_
          have e0 : dn kd nb B 0 = B 0 := by unfold dn; rw [if_neg (by assumption), if_neg (by assumption), if_neg (by assumption), if_neg (by assumption)]
          have e1 : dn kd nb B 1 = B 1 := by unfold dn; rw [if_neg (by assumption), if_neg (by assumption), if_neg (by assumption), if_neg (by assumption)]
          have e2 : dn kd nb B 2 = B 2 := by unfold dn; rw [if_neg (by assumption), if_neg (by assumption), if_neg (by assumption), if_neg (by assumption)]
          have e3 : dn kd nb B 3 = B 3 := by unfold dn; rw [if_neg (by assumption), if_neg (by assumption), if_neg (by assumption), if_neg (by assumption)]
          have e4 : dn kd nb B 4 = B 4 := by unfold dn; rw [if_neg (by assumption), if_neg (by assumption), if_neg (by assumption), if_neg (by assumption)]
          have e5 : dn kd nb B 5 = B 5 := by unfold dn; rw [if_neg (by assumption), if_neg (by assumption), if_neg (by assumption), if_neg (by assumption)]
          have eg : va_up (va_up (va_up (va_up (va_up (va_up g 16 (vp_updL (g 16) k (iL (B 0)))) 17 (vp_updL (g 17) k (iL (B 1)))) 18 (vp_updL (g 18) k (iL (B 2)))) 19 (vp_updL (g 19) k (iL (B 3)))) 20 (vp_updL (g 20) k (iL (B 4)))) 21 (vp_updL (g 21) k (iL (B 5))) = gbox g k (dn kd nb B) := ?_
          · exact congrArg (fun z => (I, J, a, z)) eg
          unfold gbox
          rw [e0, e1, e2, e3, e4, e5]
          all_goals rfl
        · skip
          refine lv_aload_n hx hb d_Mo_goDown_336 rfl (lv_at hl 5 rfl) ?_
          refine mo_getr hC hK hM 4 wf_Mo_19 rfl (by decide) (by decide) d_Mo_goDown_337 ?_
          refine lv_iload hx hb d_Mo_goDown_340 (lv_at hl 3 rfl) ?_
          refine mo_ialdN hC hK hM 4 (6 * ((64 * b) + o)) (by decide) rfl (n := 3072) rfl (by decide) (i := nI (6 * ((64 * b) + o))) (rfl) (by omega) (v := iI (nb 0)) (hnb 0 (by unfold nOf; (repeat' split) <;> omega)) d_Mo_goDown_342 ?_
          refine lv_istore (lv' := [(10, .int (iI (nb 0))), (8, .long (iL (B 1))), (6, .long (iL (B 0))), (5, .int (nI kd)), (4, .int (nI (6 * ((64 * b) + o)))), (3, .int (nI o)), (0, .ref (ad 46)), (1, .int (nI b)), (2, .int (nI k))]) hx hb d_Mo_goDown_343 hl (by decide) rfl (fun ls hl => ?_)
          refine lv_lload hx hb d_Mo_goDown_345 (lv_at hl 1 rfl) ?_
          refine lv_lload hx hb d_Mo_goDown_347 (lv_at hl 2 rfl) ?_
          refine lv_lsub hx hb d_Mo_goDown_349 ?_
          refine topl_eq (iL_sub (B 1) (B 0)) ?_
          refine lv_lconst (v := 1) hx hb d_Mo_goDown_350 (by decide) ?_
          refine lv_ladd hx hb d_Mo_goDown_351 ?_
          refine topl_eq (iL_add ((B 1) - (B 0)) 1) ?_
          refine lv_iload hx hb d_Mo_goDown_352 (lv_at hl 0 rfl) ?_
          refine lv_i2l (v := iL (nb 0)) hx hb d_Mo_goDown_354 (iI_l (z := nb 0) (by omega) (by omega)) ?_
          refine zl_ge hx hb (((B 1) - (B 0)) + 1) (nb 0) (by omega) (by omega) (by omega) (by omega) d_Mo_goDown_355 d_Mo_goDown_356 (tgt := 377) (by decide) (fun h5 => ?_) (fun h5 => ?_)
          · skip
            refine lv_iconst (v := 1) hx hb d_Mo_goDown_377 (by decide) ?_
            refine lv_goto (tgt := 382) hx hb d_Mo_goDown_378 (by decide) ?_
            refine lv_istore (lv' := [(11, .int 1), (10, .int (iI (nb 0))), (8, .long (iL (B 1))), (6, .long (iL (B 0))), (5, .int (nI kd)), (4, .int (nI (6 * ((64 * b) + o)))), (3, .int (nI o)), (0, .ref (ad 46)), (1, .int (nI b)), (2, .int (nI k))]) hx hb d_Mo_goDown_382 hl (by decide) rfl (fun ls hl => ?_)
            refine lv_aload_n hx hb d_Mo_goDown_384 rfl (lv_at hl 7 rfl) ?_
            refine mo_getr hC hK hM 16 wf_Mo_31 rfl (by decide) (by decide) d_Mo_goDown_385 ?_
            refine lv_iload_n hx hb d_Mo_goDown_388 rfl (lv_at hl 9 rfl) ?_
            refine lv_iload hx hb d_Mo_goDown_389 (lv_at hl 0 rfl) ?_
            refine lv_if_eq (tgt := 398) hx hb d_Mo_goDown_391 (by decide) (fun h6 => ?_) (fun h6 => ?_)
            · exact absurd h6 (by decide)
            · skip
              refine lv_lconst (v := 0) hx hb d_Mo_goDown_394 (by decide) ?_
              refine lv_goto (tgt := 405) hx hb d_Mo_goDown_395 (by decide) ?_
              refine mo_lastN hC hK hM 16 k (by decide) rfl (n := 64) rfl (by decide) (i := nI k) (x := 0) (rfl) (by omega) d_Mo_goDown_405 (fun H locs hM => ?_)
              rw [up_swap (i := 21) (j := 16) (by decide), up_swap (i := 20) (j := 16) (by decide), up_swap (i := 19) (j := 16) (by decide), up_swap (i := 18) (j := 16) (by decide), up_swap (i := 17) (j := 16) (by decide), bx_uu] at hM
              replace hM : MO D cT ad I J a (va_up (va_up (va_up (va_up (va_up (va_up g 16 (vp_updL (vp_updL (g 16) k (iL (B 0))) k 0)) 17 (vp_updL (g 17) k (iL (B 1)))) 18 (vp_updL (g 18) k (iL (B 2)))) 19 (vp_updL (g 19) k (iL (B 3)))) 20 (vp_updL (g 20) k (iL (B 4)))) 21 (vp_updL (g 21) k (iL (B 5)))) s.heap H locs := hM
              rw [updL_updL] at hM
              refine lv_aload_n hx hb d_Mo_goDown_406 rfl (lv_at hl 7 rfl) ?_
              refine mo_getr hC hK hM 17 wf_Mo_35 rfl (by decide) (by decide) d_Mo_goDown_407 ?_
              refine lv_iload_n hx hb d_Mo_goDown_410 rfl (lv_at hl 9 rfl) ?_
              refine lv_iload hx hb d_Mo_goDown_411 (lv_at hl 0 rfl) ?_
              refine lv_if_eq (tgt := 424) hx hb d_Mo_goDown_413 (by decide) (fun h7 => ?_) (fun h7 => ?_)
              · exact absurd h7 (by decide)
              · skip
                refine lv_iload hx hb d_Mo_goDown_416 (lv_at hl 1 rfl) ?_
                refine lv_i2l (v := iL (nb 0)) hx hb d_Mo_goDown_418 (iI_l (z := nb 0) (by omega) (by omega)) ?_
                refine lv_lconst (v := 1) hx hb d_Mo_goDown_419 (by decide) ?_
                refine lv_lsub hx hb d_Mo_goDown_420 ?_
                refine topl_eq (iL_sub (nb 0) 1) ?_
                refine lv_goto (tgt := 431) hx hb d_Mo_goDown_421 (by decide) ?_
                refine mo_lastN hC hK hM 17 k (by decide) rfl (n := 64) rfl (by decide) (i := nI k) (x := iL ((nb 0) - 1)) (rfl) (by omega) d_Mo_goDown_431 (fun H locs hM => ?_)
                rw [up_swap (i := 21) (j := 17) (by decide), up_swap (i := 20) (j := 17) (by decide), up_swap (i := 19) (j := 17) (by decide), up_swap (i := 18) (j := 17) (by decide), bx_uu] at hM
                replace hM : MO D cT ad I J a (va_up (va_up (va_up (va_up (va_up (va_up g 16 (vp_updL (g 16) k 0)) 17 (vp_updL (vp_updL (g 17) k (iL (B 1))) k (iL ((nb 0) - 1)))) 18 (vp_updL (g 18) k (iL (B 2)))) 19 (vp_updL (g 19) k (iL (B 3)))) 20 (vp_updL (g 20) k (iL (B 4)))) 21 (vp_updL (g 21) k (iL (B 5)))) s.heap H locs := hM
                rw [updL_updL] at hM
                refine hret _ _ _ _ _ _ _ _ d_Mo_goDown_432 hM ?_
                subst h4
                have e0 : dn 9 nb B 0 = 0 := by show (if nb 0 ≤ B 1 - B 0 + 1 ∨ B 1 % nb 0 < B 0 % nb 0 then _ else _) = _; first | rw [if_pos (by omega)] | rw [if_neg (by omega)]
                have e1 : dn 9 nb B 1 = (nb 0) - 1 := by show (if nb 0 ≤ B 1 - B 0 + 1 ∨ B 1 % nb 0 < B 0 % nb 0 then _ else _) = _; first | rw [if_pos (by omega)] | rw [if_neg (by omega)]
                have e2 : dn 9 nb B 2 = B 2 := rfl
                have e3 : dn 9 nb B 3 = B 3 := rfl
                have e4 : dn 9 nb B 4 = B 4 := rfl
                have e5 : dn 9 nb B 5 = B 5 := rfl
                have eg : va_up (va_up (va_up (va_up (va_up (va_up g 16 (vp_updL (g 16) k 0)) 17 (vp_updL (g 17) k (iL ((nb 0) - 1)))) 18 (vp_updL (g 18) k (iL (B 2)))) 19 (vp_updL (g 19) k (iL (B 3)))) 20 (vp_updL (g 20) k (iL (B 4)))) 21 (vp_updL (g 21) k (iL (B 5))) = gbox g k (dn 9 nb B) := ?_
                · exact congrArg (fun z => (I, J, a, z)) eg
                unfold gbox
                rw [e0, e1, e2, e3, e4, e5]
                all_goals rfl
          · skip
            refine lv_lload hx hb d_Mo_goDown_359 (lv_at hl 1 rfl) ?_
            refine lv_iload hx hb d_Mo_goDown_361 (lv_at hl 0 rfl) ?_
            refine st_calll (np := 2) hC (c_Mo_modulo l (B 1) (nb 0) (by omega) (by omega) (by omega) (by omega)) ⟨wl_Mo_175, wt_Mo_modulo, wc_Mo_modulo, wn_Mo⟩ ⟨by decide, by decide, by decide +kernel⟩ ⟨Nat.le_of_ble_eq_true rfl, Nat.le_of_ble_eq_true rfl⟩ hl.1 rfl (rest := []) rfl (Nat.le_of_ble_eq_true rfl) ⟨Nat.zero_le _, Nat.zero_le _⟩ d_Mo_goDown_363 (fun rr hrr => ?_)
            subst hrr
            refine lv_lload hx hb d_Mo_goDown_366 (lv_at hl 2 rfl) ?_
            refine lv_iload hx hb d_Mo_goDown_368 (lv_at hl 0 rfl) ?_
            refine st_calll (np := 2) hC (c_Mo_modulo l (B 0) (nb 0) (by omega) (by omega) (by omega) (by omega)) ⟨wl_Mo_175, wt_Mo_modulo, wc_Mo_modulo, wn_Mo⟩ ⟨by decide, by decide, by decide +kernel⟩ ⟨Nat.le_of_ble_eq_true rfl, Nat.le_of_ble_eq_true rfl⟩ hl.1 rfl (rest := [.long (iL ((B 1) % (nb 0)))]) rfl (Nat.le_of_ble_eq_true rfl) ⟨Nat.zero_le _, Nat.zero_le _⟩ d_Mo_goDown_370 (fun rr hrr => ?_)
            subst hrr
            refine zl_ge hx hb ((B 1) % (nb 0)) ((B 0) % (nb 0)) (by omega) (by omega) (by omega) (by omega) d_Mo_goDown_373 d_Mo_goDown_374 (tgt := 381) (by decide) (fun h8 => ?_) (fun h8 => ?_)
            · skip
              refine lv_iconst (v := 0) hx hb d_Mo_goDown_381 (by decide) ?_
              refine lv_istore (lv' := [(11, .int 0), (10, .int (iI (nb 0))), (8, .long (iL (B 1))), (6, .long (iL (B 0))), (5, .int (nI kd)), (4, .int (nI (6 * ((64 * b) + o)))), (3, .int (nI o)), (0, .ref (ad 46)), (1, .int (nI b)), (2, .int (nI k))]) hx hb d_Mo_goDown_382 hl (by decide) rfl (fun ls hl => ?_)
              refine lv_aload_n hx hb d_Mo_goDown_384 rfl (lv_at hl 7 rfl) ?_
              refine mo_getr hC hK hM 16 wf_Mo_31 rfl (by decide) (by decide) d_Mo_goDown_385 ?_
              refine lv_iload_n hx hb d_Mo_goDown_388 rfl (lv_at hl 9 rfl) ?_
              refine lv_iload hx hb d_Mo_goDown_389 (lv_at hl 0 rfl) ?_
              refine lv_if_eq (tgt := 398) hx hb d_Mo_goDown_391 (by decide) (fun h9 => ?_) (fun h9 => ?_)
              · skip
                refine lv_lload hx hb d_Mo_goDown_398 (lv_at hl 3 rfl) ?_
                refine lv_iload hx hb d_Mo_goDown_400 (lv_at hl 1 rfl) ?_
                refine st_calll (np := 2) hC (c_Mo_modulo l (B 0) (nb 0) (by omega) (by omega) (by omega) (by omega)) ⟨wl_Mo_175, wt_Mo_modulo, wc_Mo_modulo, wn_Mo⟩ ⟨by decide, by decide, by decide +kernel⟩ ⟨Nat.le_of_ble_eq_true rfl, Nat.le_of_ble_eq_true rfl⟩ hl.1 rfl (rest := [.int (nI k), .ref (ad 16)]) rfl (Nat.le_of_ble_eq_true rfl) ⟨Nat.zero_le _, Nat.zero_le _⟩ d_Mo_goDown_402 (fun rr hrr => ?_)
                subst hrr
                refine mo_lastN hC hK hM 16 k (by decide) rfl (n := 64) rfl (by decide) (i := nI k) (x := iL ((B 0) % (nb 0))) (rfl) (by omega) d_Mo_goDown_405 (fun H locs hM => ?_)
                rw [up_swap (i := 21) (j := 16) (by decide), up_swap (i := 20) (j := 16) (by decide), up_swap (i := 19) (j := 16) (by decide), up_swap (i := 18) (j := 16) (by decide), up_swap (i := 17) (j := 16) (by decide), bx_uu] at hM
                replace hM : MO D cT ad I J a (va_up (va_up (va_up (va_up (va_up (va_up g 16 (vp_updL (vp_updL (g 16) k (iL (B 0))) k (iL ((B 0) % (nb 0))))) 17 (vp_updL (g 17) k (iL (B 1)))) 18 (vp_updL (g 18) k (iL (B 2)))) 19 (vp_updL (g 19) k (iL (B 3)))) 20 (vp_updL (g 20) k (iL (B 4)))) 21 (vp_updL (g 21) k (iL (B 5)))) s.heap H locs := hM
                rw [updL_updL] at hM
                refine lv_aload_n hx hb d_Mo_goDown_406 rfl (lv_at hl 7 rfl) ?_
                refine mo_getr hC hK hM 17 wf_Mo_35 rfl (by decide) (by decide) d_Mo_goDown_407 ?_
                refine lv_iload_n hx hb d_Mo_goDown_410 rfl (lv_at hl 9 rfl) ?_
                refine lv_iload hx hb d_Mo_goDown_411 (lv_at hl 0 rfl) ?_
                refine lv_if_eq (tgt := 424) hx hb d_Mo_goDown_413 (by decide) (fun h10 => ?_) (fun h10 => ?_)
                · skip
                  refine lv_lload hx hb d_Mo_goDown_424 (lv_at hl 2 rfl) ?_
                  refine lv_iload hx hb d_Mo_goDown_426 (lv_at hl 1 rfl) ?_
                  refine st_calll (np := 2) hC (c_Mo_modulo l (B 1) (nb 0) (by omega) (by omega) (by omega) (by omega)) ⟨wl_Mo_175, wt_Mo_modulo, wc_Mo_modulo, wn_Mo⟩ ⟨by decide, by decide, by decide +kernel⟩ ⟨Nat.le_of_ble_eq_true rfl, Nat.le_of_ble_eq_true rfl⟩ hl.1 rfl (rest := [.int (nI k), .ref (ad 17)]) rfl (Nat.le_of_ble_eq_true rfl) ⟨Nat.zero_le _, Nat.zero_le _⟩ d_Mo_goDown_428 (fun rr hrr => ?_)
                  subst hrr
                  refine mo_lastN hC hK hM 17 k (by decide) rfl (n := 64) rfl (by decide) (i := nI k) (x := iL ((B 1) % (nb 0))) (rfl) (by omega) d_Mo_goDown_431 (fun H locs hM => ?_)
                  rw [up_swap (i := 21) (j := 17) (by decide), up_swap (i := 20) (j := 17) (by decide), up_swap (i := 19) (j := 17) (by decide), up_swap (i := 18) (j := 17) (by decide), bx_uu] at hM
                  replace hM : MO D cT ad I J a (va_up (va_up (va_up (va_up (va_up (va_up g 16 (vp_updL (g 16) k (iL ((B 0) % (nb 0))))) 17 (vp_updL (vp_updL (g 17) k (iL (B 1))) k (iL ((B 1) % (nb 0))))) 18 (vp_updL (g 18) k (iL (B 2)))) 19 (vp_updL (g 19) k (iL (B 3)))) 20 (vp_updL (g 20) k (iL (B 4)))) 21 (vp_updL (g 21) k (iL (B 5)))) s.heap H locs := hM
                  rw [updL_updL] at hM
                  refine hret _ _ _ _ _ _ _ _ d_Mo_goDown_432 hM ?_
                  subst h4
                  have e0 : dn 9 nb B 0 = (B 0) % (nb 0) := by show (if nb 0 ≤ B 1 - B 0 + 1 ∨ B 1 % nb 0 < B 0 % nb 0 then _ else _) = _; first | rw [if_pos (by omega)] | rw [if_neg (by omega)]
                  have e1 : dn 9 nb B 1 = (B 1) % (nb 0) := by show (if nb 0 ≤ B 1 - B 0 + 1 ∨ B 1 % nb 0 < B 0 % nb 0 then _ else _) = _; first | rw [if_pos (by omega)] | rw [if_neg (by omega)]
                  have e2 : dn 9 nb B 2 = B 2 := rfl
                  have e3 : dn 9 nb B 3 = B 3 := rfl
                  have e4 : dn 9 nb B 4 = B 4 := rfl
                  have e5 : dn 9 nb B 5 = B 5 := rfl
                  have eg : va_up (va_up (va_up (va_up (va_up (va_up g 16 (vp_updL (g 16) k (iL ((B 0) % (nb 0))))) 17 (vp_updL (g 17) k (iL ((B 1) % (nb 0))))) 18 (vp_updL (g 18) k (iL (B 2)))) 19 (vp_updL (g 19) k (iL (B 3)))) 20 (vp_updL (g 20) k (iL (B 4)))) 21 (vp_updL (g 21) k (iL (B 5))) = gbox g k (dn 9 nb B) := ?_
                  · exact congrArg (fun z => (I, J, a, z)) eg
                  unfold gbox
                  rw [e0, e1, e2, e3, e4, e5]
                  all_goals rfl
                · exact absurd h10 (by decide)
              · exact absurd h9 (by decide)
            · skip
              refine lv_iconst (v := 1) hx hb d_Mo_goDown_377 (by decide) ?_
              refine lv_goto (tgt := 382) hx hb d_Mo_goDown_378 (by decide) ?_
              refine lv_istore (lv' := [(11, .int 1), (10, .int (iI (nb 0))), (8, .long (iL (B 1))), (6, .long (iL (B 0))), (5, .int (nI kd)), (4, .int (nI (6 * ((64 * b) + o)))), (3, .int (nI o)), (0, .ref (ad 46)), (1, .int (nI b)), (2, .int (nI k))]) hx hb d_Mo_goDown_382 hl (by decide) rfl (fun ls hl => ?_)
              refine lv_aload_n hx hb d_Mo_goDown_384 rfl (lv_at hl 7 rfl) ?_
              refine mo_getr hC hK hM 16 wf_Mo_31 rfl (by decide) (by decide) d_Mo_goDown_385 ?_
              refine lv_iload_n hx hb d_Mo_goDown_388 rfl (lv_at hl 9 rfl) ?_
              refine lv_iload hx hb d_Mo_goDown_389 (lv_at hl 0 rfl) ?_
              refine lv_if_eq (tgt := 398) hx hb d_Mo_goDown_391 (by decide) (fun h11 => ?_) (fun h11 => ?_)
              · exact absurd h11 (by decide)
              · skip
                refine lv_lconst (v := 0) hx hb d_Mo_goDown_394 (by decide) ?_
                refine lv_goto (tgt := 405) hx hb d_Mo_goDown_395 (by decide) ?_
                refine mo_lastN hC hK hM 16 k (by decide) rfl (n := 64) rfl (by decide) (i := nI k) (x := 0) (rfl) (by omega) d_Mo_goDown_405 (fun H locs hM => ?_)
                rw [up_swap (i := 21) (j := 16) (by decide), up_swap (i := 20) (j := 16) (by decide), up_swap (i := 19) (j := 16) (by decide), up_swap (i := 18) (j := 16) (by decide), up_swap (i := 17) (j := 16) (by decide), bx_uu] at hM
                replace hM : MO D cT ad I J a (va_up (va_up (va_up (va_up (va_up (va_up g 16 (vp_updL (vp_updL (g 16) k (iL (B 0))) k 0)) 17 (vp_updL (g 17) k (iL (B 1)))) 18 (vp_updL (g 18) k (iL (B 2)))) 19 (vp_updL (g 19) k (iL (B 3)))) 20 (vp_updL (g 20) k (iL (B 4)))) 21 (vp_updL (g 21) k (iL (B 5)))) s.heap H locs := hM
                rw [updL_updL] at hM
                refine lv_aload_n hx hb d_Mo_goDown_406 rfl (lv_at hl 7 rfl) ?_
                refine mo_getr hC hK hM 17 wf_Mo_35 rfl (by decide) (by decide) d_Mo_goDown_407 ?_
                refine lv_iload_n hx hb d_Mo_goDown_410 rfl (lv_at hl 9 rfl) ?_
                refine lv_iload hx hb d_Mo_goDown_411 (lv_at hl 0 rfl) ?_
                refine lv_if_eq (tgt := 424) hx hb d_Mo_goDown_413 (by decide) (fun h12 => ?_) (fun h12 => ?_)
                · exact absurd h12 (by decide)
                · skip
                  refine lv_iload hx hb d_Mo_goDown_416 (lv_at hl 1 rfl) ?_
                  refine lv_i2l (v := iL (nb 0)) hx hb d_Mo_goDown_418 (iI_l (z := nb 0) (by omega) (by omega)) ?_
                  refine lv_lconst (v := 1) hx hb d_Mo_goDown_419 (by decide) ?_
                  refine lv_lsub hx hb d_Mo_goDown_420 ?_
                  refine topl_eq (iL_sub (nb 0) 1) ?_
                  refine lv_goto (tgt := 431) hx hb d_Mo_goDown_421 (by decide) ?_
                  refine mo_lastN hC hK hM 17 k (by decide) rfl (n := 64) rfl (by decide) (i := nI k) (x := iL ((nb 0) - 1)) (rfl) (by omega) d_Mo_goDown_431 (fun H locs hM => ?_)
                  rw [up_swap (i := 21) (j := 17) (by decide), up_swap (i := 20) (j := 17) (by decide), up_swap (i := 19) (j := 17) (by decide), up_swap (i := 18) (j := 17) (by decide), bx_uu] at hM
                  replace hM : MO D cT ad I J a (va_up (va_up (va_up (va_up (va_up (va_up g 16 (vp_updL (g 16) k 0)) 17 (vp_updL (vp_updL (g 17) k (iL (B 1))) k (iL ((nb 0) - 1)))) 18 (vp_updL (g 18) k (iL (B 2)))) 19 (vp_updL (g 19) k (iL (B 3)))) 20 (vp_updL (g 20) k (iL (B 4)))) 21 (vp_updL (g 21) k (iL (B 5)))) s.heap H locs := hM
                  rw [updL_updL] at hM
                  refine hret _ _ _ _ _ _ _ _ d_Mo_goDown_432 hM ?_
                  subst h4
                  have e0 : dn 9 nb B 0 = 0 := by show (if nb 0 ≤ B 1 - B 0 + 1 ∨ B 1 % nb 0 < B 0 % nb 0 then _ else _) = _; first | rw [if_pos (by omega)] | rw [if_neg (by omega)]
                  have e1 : dn 9 nb B 1 = (nb 0) - 1 := by show (if nb 0 ≤ B 1 - B 0 + 1 ∨ B 1 % nb 0 < B 0 % nb 0 then _ else _) = _; first | rw [if_pos (by omega)] | rw [if_neg (by omega)]
                  have e2 : dn 9 nb B 2 = B 2 := rfl
                  have e3 : dn 9 nb B 3 = B 3 := rfl
                  have e4 : dn 9 nb B 4 = B 4 := rfl
                  have e5 : dn 9 nb B 5 = B 5 := rfl
                  have eg : va_up (va_up (va_up (va_up (va_up (va_up g 16 (vp_updL (g 16) k 0)) 17 (vp_updL (g 17) k (iL ((nb 0) - 1)))) 18 (vp_updL (g 18) k (iL (B 2)))) 19 (vp_updL (g 19) k (iL (B 3)))) 20 (vp_updL (g 20) k (iL (B 4)))) 21 (vp_updL (g 21) k (iL (B 5))) = gbox g k (dn 9 nb B) := ?_
                  · exact congrArg (fun z => (I, J, a, z)) eg
                  unfold gbox
                  rw [e0, e1, e2, e3, e4, e5]
                  all_goals rfl
      · skip
        refine lv_aload_n hx hb d_Mo_goDown_311 rfl (lv_at hl 5 rfl) ?_
        refine mo_getr hC hK hM 16 wf_Mo_31 rfl (by decide) (by decide) d_Mo_goDown_312 ?_
        refine lv_iload_n hx hb d_Mo_goDown_315 rfl (lv_at hl 7 rfl) ?_
        refine lv_lload hx hb d_Mo_goDown_316 (lv_at hl 0 rfl) ?_
        refine lv_lneg hx hb d_Mo_goDown_318 ?_
        refine topl_eq (iL_neg (B 1)) ?_
        refine mo_lastN hC hK hM 16 k (by decide) rfl (n := 64) rfl (by decide) (i := nI k) (x := iL (-(B 1))) (rfl) (by omega) d_Mo_goDown_319 (fun H locs hM => ?_)
        rw [up_swap (i := 21) (j := 16) (by decide), up_swap (i := 20) (j := 16) (by decide), up_swap (i := 19) (j := 16) (by decide), up_swap (i := 18) (j := 16) (by decide), up_swap (i := 17) (j := 16) (by decide), bx_uu] at hM
        replace hM : MO D cT ad I J a (va_up (va_up (va_up (va_up (va_up (va_up g 16 (vp_updL (vp_updL (g 16) k (iL (B 0))) k (iL (-(B 1))))) 17 (vp_updL (g 17) k (iL (B 1)))) 18 (vp_updL (g 18) k (iL (B 2)))) 19 (vp_updL (g 19) k (iL (B 3)))) 20 (vp_updL (g 20) k (iL (B 4)))) 21 (vp_updL (g 21) k (iL (B 5)))) s.heap H locs := hM
        rw [updL_updL] at hM
        refine lv_aload_n hx hb d_Mo_goDown_320 rfl (lv_at hl 5 rfl) ?_
        refine mo_getr hC hK hM 17 wf_Mo_35 rfl (by decide) (by decide) d_Mo_goDown_321 ?_
        refine lv_iload_n hx hb d_Mo_goDown_324 rfl (lv_at hl 7 rfl) ?_
        refine lv_lload hx hb d_Mo_goDown_325 (lv_at hl 1 rfl) ?_
        refine lv_lneg hx hb d_Mo_goDown_327 ?_
        refine topl_eq (iL_neg (B 0)) ?_
        refine mo_lastN hC hK hM 17 k (by decide) rfl (n := 64) rfl (by decide) (i := nI k) (x := iL (-(B 0))) (rfl) (by omega) d_Mo_goDown_328 (fun H locs hM => ?_)
        rw [up_swap (i := 21) (j := 17) (by decide), up_swap (i := 20) (j := 17) (by decide), up_swap (i := 19) (j := 17) (by decide), up_swap (i := 18) (j := 17) (by decide), bx_uu] at hM
        replace hM : MO D cT ad I J a (va_up (va_up (va_up (va_up (va_up (va_up g 16 (vp_updL (g 16) k (iL (-(B 1))))) 17 (vp_updL (vp_updL (g 17) k (iL (B 1))) k (iL (-(B 0))))) 18 (vp_updL (g 18) k (iL (B 2)))) 19 (vp_updL (g 19) k (iL (B 3)))) 20 (vp_updL (g 20) k (iL (B 4)))) 21 (vp_updL (g 21) k (iL (B 5)))) s.heap H locs := hM
        rw [updL_updL] at hM
        refine lv_iload hx hb d_Mo_goDown_329 (lv_at hl 2 rfl) ?_
        refine lv_bipush (v := 9) hx hb d_Mo_goDown_331 (by decide) ?_
        refine nc_ne hx hb kd 9 (by omega) (by omega) d_Mo_goDown_333 (tgt := 432) (by decide) (fun h13 => ?_) (fun h13 => ?_)
        · skip
          refine hret _ _ _ _ _ _ _ _ d_Mo_goDown_432 hM ?_
          subst h3
          have e0 : dn 8 nb B 0 = -(B 1) := rfl
          have e1 : dn 8 nb B 1 = -(B 0) := rfl
          have e2 : dn 8 nb B 2 = B 2 := rfl
          have e3 : dn 8 nb B 3 = B 3 := rfl
          have e4 : dn 8 nb B 4 = B 4 := rfl
          have e5 : dn 8 nb B 5 = B 5 := rfl
          have eg : va_up (va_up (va_up (va_up (va_up (va_up g 16 (vp_updL (g 16) k (iL (-(B 1))))) 17 (vp_updL (g 17) k (iL (-(B 0))))) 18 (vp_updL (g 18) k (iL (B 2)))) 19 (vp_updL (g 19) k (iL (B 3)))) 20 (vp_updL (g 20) k (iL (B 4)))) 21 (vp_updL (g 21) k (iL (B 5))) = gbox g k (dn 8 nb B) := ?_
          · exact congrArg (fun z => (I, J, a, z)) eg
          unfold gbox
          rw [e0, e1, e2, e3, e4, e5]
          all_goals rfl
        · exfalso; omega
    · skip
      refine lv_aload_n hx hb d_Mo_goDown_240 rfl (lv_at hl 5 rfl) ?_
      refine mo_getr hC hK hM 16 wf_Mo_31 rfl (by decide) (by decide) d_Mo_goDown_241 ?_
      refine lv_iload_n hx hb d_Mo_goDown_244 rfl (lv_at hl 7 rfl) ?_
      refine lv_aload_n hx hb d_Mo_goDown_245 rfl (lv_at hl 5 rfl) ?_
      refine mo_getr hC hK hM 18 wf_Mo_38 rfl (by decide) (by decide) d_Mo_goDown_246 ?_
      refine lv_iload_n hx hb d_Mo_goDown_249 rfl (lv_at hl 4 rfl) ?_
      refine mo_laldN hC hK hM 18 o (by decide) rfl (n := 64) rfl (by decide) (i := nI o) (rfl) (by omega) (v := iL (B 2)) ((pk_uLn (by omega)).trans (hB 2 (by decide))) d_Mo_goDown_250 ?_
      refine mo_lastN hC hK hM 16 k (by decide) rfl (n := 64) rfl (by decide) (i := nI k) (x := iL (B 2)) (rfl) (by omega) d_Mo_goDown_251 (fun H locs hM => ?_)
      rw [up_swap (i := 21) (j := 16) (by decide), up_swap (i := 20) (j := 16) (by decide), up_swap (i := 19) (j := 16) (by decide), up_swap (i := 18) (j := 16) (by decide), up_swap (i := 17) (j := 16) (by decide), bx_uu] at hM
      replace hM : MO D cT ad I J a (va_up (va_up (va_up (va_up (va_up (va_up g 16 (vp_updL (vp_updL (g 16) k (iL (B 0))) k (iL (B 2)))) 17 (vp_updL (g 17) k (iL (B 1)))) 18 (vp_updL (g 18) k (iL (B 2)))) 19 (vp_updL (g 19) k (iL (B 3)))) 20 (vp_updL (g 20) k (iL (B 4)))) 21 (vp_updL (g 21) k (iL (B 5)))) s.heap H locs := hM
      rw [updL_updL] at hM
      refine lv_aload_n hx hb d_Mo_goDown_252 rfl (lv_at hl 5 rfl) ?_
      refine mo_getr hC hK hM 17 wf_Mo_35 rfl (by decide) (by decide) d_Mo_goDown_253 ?_
      refine lv_iload_n hx hb d_Mo_goDown_256 rfl (lv_at hl 7 rfl) ?_
      refine lv_aload_n hx hb d_Mo_goDown_257 rfl (lv_at hl 5 rfl) ?_
      refine mo_getr hC hK hM 19 wf_Mo_41 rfl (by decide) (by decide) d_Mo_goDown_258 ?_
      refine lv_iload_n hx hb d_Mo_goDown_261 rfl (lv_at hl 4 rfl) ?_
      refine mo_laldN hC hK hM 19 o (by decide) rfl (n := 64) rfl (by decide) (i := nI o) (rfl) (by omega) (v := iL (B 3)) ((pk_uLn (by omega)).trans (hB 3 (by decide))) d_Mo_goDown_262 ?_
      refine mo_lastN hC hK hM 17 k (by decide) rfl (n := 64) rfl (by decide) (i := nI k) (x := iL (B 3)) (rfl) (by omega) d_Mo_goDown_263 (fun H locs hM => ?_)
      rw [up_swap (i := 21) (j := 17) (by decide), up_swap (i := 20) (j := 17) (by decide), up_swap (i := 19) (j := 17) (by decide), up_swap (i := 18) (j := 17) (by decide), bx_uu] at hM
      replace hM : MO D cT ad I J a (va_up (va_up (va_up (va_up (va_up (va_up g 16 (vp_updL (g 16) k (iL (B 2)))) 17 (vp_updL (vp_updL (g 17) k (iL (B 1))) k (iL (B 3)))) 18 (vp_updL (g 18) k (iL (B 2)))) 19 (vp_updL (g 19) k (iL (B 3)))) 20 (vp_updL (g 20) k (iL (B 4)))) 21 (vp_updL (g 21) k (iL (B 5)))) s.heap H locs := hM
      rw [updL_updL] at hM
      refine lv_aload_n hx hb d_Mo_goDown_264 rfl (lv_at hl 5 rfl) ?_
      refine mo_getr hC hK hM 18 wf_Mo_38 rfl (by decide) (by decide) d_Mo_goDown_265 ?_
      refine lv_iload_n hx hb d_Mo_goDown_268 rfl (lv_at hl 7 rfl) ?_
      refine lv_aload_n hx hb d_Mo_goDown_269 rfl (lv_at hl 5 rfl) ?_
      refine mo_getr hC hK hM 20 wf_Mo_44 rfl (by decide) (by decide) d_Mo_goDown_270 ?_
      refine lv_iload_n hx hb d_Mo_goDown_273 rfl (lv_at hl 4 rfl) ?_
      refine mo_laldN hC hK hM 20 o (by decide) rfl (n := 64) rfl (by decide) (i := nI o) (rfl) (by omega) (v := iL (B 4)) ((pk_uLn (by omega)).trans (hB 4 (by decide))) d_Mo_goDown_274 ?_
      refine mo_lastN hC hK hM 18 k (by decide) rfl (n := 64) rfl (by decide) (i := nI k) (x := iL (B 4)) (rfl) (by omega) d_Mo_goDown_275 (fun H locs hM => ?_)
      rw [up_swap (i := 21) (j := 18) (by decide), up_swap (i := 20) (j := 18) (by decide), up_swap (i := 19) (j := 18) (by decide), bx_uu] at hM
      replace hM : MO D cT ad I J a (va_up (va_up (va_up (va_up (va_up (va_up g 16 (vp_updL (g 16) k (iL (B 2)))) 17 (vp_updL (g 17) k (iL (B 3)))) 18 (vp_updL (vp_updL (g 18) k (iL (B 2))) k (iL (B 4)))) 19 (vp_updL (g 19) k (iL (B 3)))) 20 (vp_updL (g 20) k (iL (B 4)))) 21 (vp_updL (g 21) k (iL (B 5)))) s.heap H locs := hM
      rw [updL_updL] at hM
      refine lv_aload_n hx hb d_Mo_goDown_276 rfl (lv_at hl 5 rfl) ?_
      refine mo_getr hC hK hM 19 wf_Mo_41 rfl (by decide) (by decide) d_Mo_goDown_277 ?_
      refine lv_iload_n hx hb d_Mo_goDown_280 rfl (lv_at hl 7 rfl) ?_
      refine lv_aload_n hx hb d_Mo_goDown_281 rfl (lv_at hl 5 rfl) ?_
      refine mo_getr hC hK hM 21 wf_Mo_47 rfl (by decide) (by decide) d_Mo_goDown_282 ?_
      refine lv_iload_n hx hb d_Mo_goDown_285 rfl (lv_at hl 4 rfl) ?_
      refine mo_laldN hC hK hM 21 o (by decide) rfl (n := 64) rfl (by decide) (i := nI o) (rfl) (by omega) (v := iL (B 5)) ((pk_uLn (by omega)).trans (hB 5 (by decide))) d_Mo_goDown_286 ?_
      refine mo_lastN hC hK hM 19 k (by decide) rfl (n := 64) rfl (by decide) (i := nI k) (x := iL (B 5)) (rfl) (by omega) d_Mo_goDown_287 (fun H locs hM => ?_)
      rw [up_swap (i := 21) (j := 19) (by decide), up_swap (i := 20) (j := 19) (by decide), bx_uu] at hM
      replace hM : MO D cT ad I J a (va_up (va_up (va_up (va_up (va_up (va_up g 16 (vp_updL (g 16) k (iL (B 2)))) 17 (vp_updL (g 17) k (iL (B 3)))) 18 (vp_updL (g 18) k (iL (B 4)))) 19 (vp_updL (vp_updL (g 19) k (iL (B 3))) k (iL (B 5)))) 20 (vp_updL (g 20) k (iL (B 4)))) 21 (vp_updL (g 21) k (iL (B 5)))) s.heap H locs := hM
      rw [updL_updL] at hM
      refine lv_aload_n hx hb d_Mo_goDown_288 rfl (lv_at hl 5 rfl) ?_
      refine mo_getr hC hK hM 20 wf_Mo_44 rfl (by decide) (by decide) d_Mo_goDown_289 ?_
      refine lv_iload_n hx hb d_Mo_goDown_292 rfl (lv_at hl 7 rfl) ?_
      refine lv_lload hx hb d_Mo_goDown_293 (lv_at hl 1 rfl) ?_
      refine mo_lastN hC hK hM 20 k (by decide) rfl (n := 64) rfl (by decide) (i := nI k) (x := iL (B 0)) (rfl) (by omega) d_Mo_goDown_295 (fun H locs hM => ?_)
      rw [up_swap (i := 21) (j := 20) (by decide), bx_uu] at hM
      replace hM : MO D cT ad I J a (va_up (va_up (va_up (va_up (va_up (va_up g 16 (vp_updL (g 16) k (iL (B 2)))) 17 (vp_updL (g 17) k (iL (B 3)))) 18 (vp_updL (g 18) k (iL (B 4)))) 19 (vp_updL (g 19) k (iL (B 5)))) 20 (vp_updL (vp_updL (g 20) k (iL (B 4))) k (iL (B 0)))) 21 (vp_updL (g 21) k (iL (B 5)))) s.heap H locs := hM
      rw [updL_updL] at hM
      refine lv_aload_n hx hb d_Mo_goDown_296 rfl (lv_at hl 5 rfl) ?_
      refine mo_getr hC hK hM 21 wf_Mo_47 rfl (by decide) (by decide) d_Mo_goDown_297 ?_
      refine lv_iload_n hx hb d_Mo_goDown_300 rfl (lv_at hl 7 rfl) ?_
      refine lv_lload hx hb d_Mo_goDown_301 (lv_at hl 0 rfl) ?_
      refine mo_lastN hC hK hM 21 k (by decide) rfl (n := 64) rfl (by decide) (i := nI k) (x := iL (B 1)) (rfl) (by omega) d_Mo_goDown_303 (fun H locs hM => ?_)
      rw [bx_uu] at hM
      replace hM : MO D cT ad I J a (va_up (va_up (va_up (va_up (va_up (va_up g 16 (vp_updL (g 16) k (iL (B 2)))) 17 (vp_updL (g 17) k (iL (B 3)))) 18 (vp_updL (g 18) k (iL (B 4)))) 19 (vp_updL (g 19) k (iL (B 5)))) 20 (vp_updL (g 20) k (iL (B 0)))) 21 (vp_updL (vp_updL (g 21) k (iL (B 5))) k (iL (B 1)))) s.heap H locs := hM
      rw [updL_updL] at hM
      refine lv_iload hx hb d_Mo_goDown_304 (lv_at hl 2 rfl) ?_
      refine lv_bipush (v := 8) hx hb d_Mo_goDown_306 (by decide) ?_
      refine nc_ne hx hb kd 8 (by omega) (by omega) d_Mo_goDown_308 (tgt := 329) (by decide) (fun h14 => ?_) (fun h14 => ?_)
      · skip
        refine lv_iload hx hb d_Mo_goDown_329 (lv_at hl 2 rfl) ?_
        refine lv_bipush (v := 9) hx hb d_Mo_goDown_331 (by decide) ?_
        refine nc_ne hx hb kd 9 (by omega) (by omega) d_Mo_goDown_333 (tgt := 432) (by decide) (fun h15 => ?_) (fun h15 => ?_)
        · skip
          refine hret _ _ _ _ _ _ _ _ d_Mo_goDown_432 hM ?_
          subst h2
          have e0 : dn 7 nb B 0 = B 2 := rfl
          have e1 : dn 7 nb B 1 = B 3 := rfl
          have e2 : dn 7 nb B 2 = B 4 := rfl
          have e3 : dn 7 nb B 3 = B 5 := rfl
          have e4 : dn 7 nb B 4 = B 0 := rfl
          have e5 : dn 7 nb B 5 = B 1 := rfl
          have eg : va_up (va_up (va_up (va_up (va_up (va_up g 16 (vp_updL (g 16) k (iL (B 2)))) 17 (vp_updL (g 17) k (iL (B 3)))) 18 (vp_updL (g 18) k (iL (B 4)))) 19 (vp_updL (g 19) k (iL (B 5)))) 20 (vp_updL (g 20) k (iL (B 0)))) 21 (vp_updL (g 21) k (iL (B 1))) = gbox g k (dn 7 nb B) := ?_
          · exact congrArg (fun z => (I, J, a, z)) eg
          unfold gbox
          rw [e0, e1, e2, e3, e4, e5]
          all_goals rfl
        · exfalso; omega
      · exfalso; omega
  · skip
    refine lv_aload_n hx hb d_Mo_goDown_123 rfl (lv_at hl 5 rfl) ?_
    refine mo_getr hC hK hM 16 wf_Mo_31 rfl (by decide) (by decide) d_Mo_goDown_124 ?_
    refine lv_iload_n hx hb d_Mo_goDown_127 rfl (lv_at hl 7 rfl) ?_
    refine lv_dup2_11 hx hb d_Mo_goDown_128 rfl rfl ?_
    refine mo_laldN hC hK hM 16 k (by decide) rfl (n := 64) rfl (by decide) (i := nI k) (rfl) (by omega) (v := iL (B 0)) (pk_uLs) d_Mo_goDown_129 ?_
    refine lv_aload_n hx hb d_Mo_goDown_130 rfl (lv_at hl 5 rfl) ?_
    refine mo_getr hC hK hM 4 wf_Mo_19 rfl (by decide) (by decide) d_Mo_goDown_131 ?_
    refine lv_iload hx hb d_Mo_goDown_134 (lv_at hl 3 rfl) ?_
    refine mo_ialdN hC hK hM 4 (6 * ((64 * b) + o)) (by decide) rfl (n := 3072) rfl (by decide) (i := nI (6 * ((64 * b) + o))) (rfl) (by omega) (v := iI (nb 0)) (hnb 0 (by unfold nOf; (repeat' split) <;> omega)) d_Mo_goDown_136 ?_
    refine lv_i2l (v := iL (nb 0)) hx hb d_Mo_goDown_137 (iI_l (z := nb 0) (by omega) (by omega)) ?_
    refine lv_lsub hx hb d_Mo_goDown_138 ?_
    refine topl_eq (iL_sub (B 0) (nb 0)) ?_
    refine mo_lastN hC hK hM 16 k (by decide) rfl (n := 64) rfl (by decide) (i := nI k) (x := iL ((B 0) - (nb 0))) (rfl) (by omega) d_Mo_goDown_139 (fun H locs hM => ?_)
    rw [up_swap (i := 21) (j := 16) (by decide), up_swap (i := 20) (j := 16) (by decide), up_swap (i := 19) (j := 16) (by decide), up_swap (i := 18) (j := 16) (by decide), up_swap (i := 17) (j := 16) (by decide), bx_uu] at hM
    replace hM : MO D cT ad I J a (va_up (va_up (va_up (va_up (va_up (va_up g 16 (vp_updL (vp_updL (g 16) k (iL (B 0))) k (iL ((B 0) - (nb 0))))) 17 (vp_updL (g 17) k (iL (B 1)))) 18 (vp_updL (g 18) k (iL (B 2)))) 19 (vp_updL (g 19) k (iL (B 3)))) 20 (vp_updL (g 20) k (iL (B 4)))) 21 (vp_updL (g 21) k (iL (B 5)))) s.heap H locs := hM
    rw [updL_updL] at hM
    refine lv_aload_n hx hb d_Mo_goDown_140 rfl (lv_at hl 5 rfl) ?_
    refine mo_getr hC hK hM 17 wf_Mo_35 rfl (by decide) (by decide) d_Mo_goDown_141 ?_
    refine lv_iload_n hx hb d_Mo_goDown_144 rfl (lv_at hl 7 rfl) ?_
    refine lv_dup2_11 hx hb d_Mo_goDown_145 rfl rfl ?_
    refine mo_laldN hC hK hM 17 k (by decide) rfl (n := 64) rfl (by decide) (i := nI k) (rfl) (by omega) (v := iL (B 1)) (pk_uLs) d_Mo_goDown_146 ?_
    refine lv_aload_n hx hb d_Mo_goDown_147 rfl (lv_at hl 5 rfl) ?_
    refine mo_getr hC hK hM 4 wf_Mo_19 rfl (by decide) (by decide) d_Mo_goDown_148 ?_
    refine lv_iload hx hb d_Mo_goDown_151 (lv_at hl 3 rfl) ?_
    refine mo_ialdN hC hK hM 4 (6 * ((64 * b) + o)) (by decide) rfl (n := 3072) rfl (by decide) (i := nI (6 * ((64 * b) + o))) (rfl) (by omega) (v := iI (nb 0)) (hnb 0 (by unfold nOf; (repeat' split) <;> omega)) d_Mo_goDown_153 ?_
    refine lv_i2l (v := iL (nb 0)) hx hb d_Mo_goDown_154 (iI_l (z := nb 0) (by omega) (by omega)) ?_
    refine lv_lsub hx hb d_Mo_goDown_155 ?_
    refine topl_eq (iL_sub (B 1) (nb 0)) ?_
    refine mo_lastN hC hK hM 17 k (by decide) rfl (n := 64) rfl (by decide) (i := nI k) (x := iL ((B 1) - (nb 0))) (rfl) (by omega) d_Mo_goDown_156 (fun H locs hM => ?_)
    rw [up_swap (i := 21) (j := 17) (by decide), up_swap (i := 20) (j := 17) (by decide), up_swap (i := 19) (j := 17) (by decide), up_swap (i := 18) (j := 17) (by decide), bx_uu] at hM
    replace hM : MO D cT ad I J a (va_up (va_up (va_up (va_up (va_up (va_up g 16 (vp_updL (g 16) k (iL ((B 0) - (nb 0))))) 17 (vp_updL (vp_updL (g 17) k (iL (B 1))) k (iL ((B 1) - (nb 0))))) 18 (vp_updL (g 18) k (iL (B 2)))) 19 (vp_updL (g 19) k (iL (B 3)))) 20 (vp_updL (g 20) k (iL (B 4)))) 21 (vp_updL (g 21) k (iL (B 5)))) s.heap H locs := hM
    rw [updL_updL] at hM
    refine lv_aload_n hx hb d_Mo_goDown_157 rfl (lv_at hl 5 rfl) ?_
    refine mo_getr hC hK hM 18 wf_Mo_38 rfl (by decide) (by decide) d_Mo_goDown_158 ?_
    refine lv_iload_n hx hb d_Mo_goDown_161 rfl (lv_at hl 7 rfl) ?_
    refine lv_dup2_11 hx hb d_Mo_goDown_162 rfl rfl ?_
    refine mo_laldN hC hK hM 18 k (by decide) rfl (n := 64) rfl (by decide) (i := nI k) (rfl) (by omega) (v := iL (B 2)) (pk_uLs) d_Mo_goDown_163 ?_
    refine lv_aload_n hx hb d_Mo_goDown_164 rfl (lv_at hl 5 rfl) ?_
    refine mo_getr hC hK hM 4 wf_Mo_19 rfl (by decide) (by decide) d_Mo_goDown_165 ?_
    refine lv_iload hx hb d_Mo_goDown_168 (lv_at hl 3 rfl) ?_
    refine lv_iconst (v := 1) hx hb d_Mo_goDown_170 (by decide) ?_
    refine lv_iadd hx hb d_Mo_goDown_171 ?_
    refine topi_eq (nI_add (6 * ((64 * b) + o)) 1) ?_
    refine mo_ialdN hC hK hM 4 ((6 * ((64 * b) + o)) + 1) (by decide) rfl (n := 3072) rfl (by decide) (i := nI ((6 * ((64 * b) + o)) + 1)) (rfl) (by omega) (v := iI (nb 1)) (hnb 1 (by unfold nOf; (repeat' split) <;> omega)) d_Mo_goDown_172 ?_
    refine lv_i2l (v := iL (nb 1)) hx hb d_Mo_goDown_173 (iI_l (z := nb 1) (by omega) (by omega)) ?_
    refine lv_lsub hx hb d_Mo_goDown_174 ?_
    refine topl_eq (iL_sub (B 2) (nb 1)) ?_
    refine mo_lastN hC hK hM 18 k (by decide) rfl (n := 64) rfl (by decide) (i := nI k) (x := iL ((B 2) - (nb 1))) (rfl) (by omega) d_Mo_goDown_175 (fun H locs hM => ?_)
    rw [up_swap (i := 21) (j := 18) (by decide), up_swap (i := 20) (j := 18) (by decide), up_swap (i := 19) (j := 18) (by decide), bx_uu] at hM
    replace hM : MO D cT ad I J a (va_up (va_up (va_up (va_up (va_up (va_up g 16 (vp_updL (g 16) k (iL ((B 0) - (nb 0))))) 17 (vp_updL (g 17) k (iL ((B 1) - (nb 0))))) 18 (vp_updL (vp_updL (g 18) k (iL (B 2))) k (iL ((B 2) - (nb 1))))) 19 (vp_updL (g 19) k (iL (B 3)))) 20 (vp_updL (g 20) k (iL (B 4)))) 21 (vp_updL (g 21) k (iL (B 5)))) s.heap H locs := hM
    rw [updL_updL] at hM
    refine lv_aload_n hx hb d_Mo_goDown_176 rfl (lv_at hl 5 rfl) ?_
    refine mo_getr hC hK hM 19 wf_Mo_41 rfl (by decide) (by decide) d_Mo_goDown_177 ?_
    refine lv_iload_n hx hb d_Mo_goDown_180 rfl (lv_at hl 7 rfl) ?_
    refine lv_dup2_11 hx hb d_Mo_goDown_181 rfl rfl ?_
    refine mo_laldN hC hK hM 19 k (by decide) rfl (n := 64) rfl (by decide) (i := nI k) (rfl) (by omega) (v := iL (B 3)) (pk_uLs) d_Mo_goDown_182 ?_
    refine lv_aload_n hx hb d_Mo_goDown_183 rfl (lv_at hl 5 rfl) ?_
    refine mo_getr hC hK hM 4 wf_Mo_19 rfl (by decide) (by decide) d_Mo_goDown_184 ?_
    refine lv_iload hx hb d_Mo_goDown_187 (lv_at hl 3 rfl) ?_
    refine lv_iconst (v := 1) hx hb d_Mo_goDown_189 (by decide) ?_
    refine lv_iadd hx hb d_Mo_goDown_190 ?_
    refine topi_eq (nI_add (6 * ((64 * b) + o)) 1) ?_
    refine mo_ialdN hC hK hM 4 ((6 * ((64 * b) + o)) + 1) (by decide) rfl (n := 3072) rfl (by decide) (i := nI ((6 * ((64 * b) + o)) + 1)) (rfl) (by omega) (v := iI (nb 1)) (hnb 1 (by unfold nOf; (repeat' split) <;> omega)) d_Mo_goDown_191 ?_
    refine lv_i2l (v := iL (nb 1)) hx hb d_Mo_goDown_192 (iI_l (z := nb 1) (by omega) (by omega)) ?_
    refine lv_lsub hx hb d_Mo_goDown_193 ?_
    refine topl_eq (iL_sub (B 3) (nb 1)) ?_
    refine mo_lastN hC hK hM 19 k (by decide) rfl (n := 64) rfl (by decide) (i := nI k) (x := iL ((B 3) - (nb 1))) (rfl) (by omega) d_Mo_goDown_194 (fun H locs hM => ?_)
    rw [up_swap (i := 21) (j := 19) (by decide), up_swap (i := 20) (j := 19) (by decide), bx_uu] at hM
    replace hM : MO D cT ad I J a (va_up (va_up (va_up (va_up (va_up (va_up g 16 (vp_updL (g 16) k (iL ((B 0) - (nb 0))))) 17 (vp_updL (g 17) k (iL ((B 1) - (nb 0))))) 18 (vp_updL (g 18) k (iL ((B 2) - (nb 1))))) 19 (vp_updL (vp_updL (g 19) k (iL (B 3))) k (iL ((B 3) - (nb 1))))) 20 (vp_updL (g 20) k (iL (B 4)))) 21 (vp_updL (g 21) k (iL (B 5)))) s.heap H locs := hM
    rw [updL_updL] at hM
    refine lv_aload_n hx hb d_Mo_goDown_195 rfl (lv_at hl 5 rfl) ?_
    refine mo_getr hC hK hM 20 wf_Mo_44 rfl (by decide) (by decide) d_Mo_goDown_196 ?_
    refine lv_iload_n hx hb d_Mo_goDown_199 rfl (lv_at hl 7 rfl) ?_
    refine lv_dup2_11 hx hb d_Mo_goDown_200 rfl rfl ?_
    refine mo_laldN hC hK hM 20 k (by decide) rfl (n := 64) rfl (by decide) (i := nI k) (rfl) (by omega) (v := iL (B 4)) (pk_uLs) d_Mo_goDown_201 ?_
    refine lv_aload_n hx hb d_Mo_goDown_202 rfl (lv_at hl 5 rfl) ?_
    refine mo_getr hC hK hM 4 wf_Mo_19 rfl (by decide) (by decide) d_Mo_goDown_203 ?_
    refine lv_iload hx hb d_Mo_goDown_206 (lv_at hl 3 rfl) ?_
    refine lv_iconst (v := 2) hx hb d_Mo_goDown_208 (by decide) ?_
    refine lv_iadd hx hb d_Mo_goDown_209 ?_
    refine topi_eq (nI_add (6 * ((64 * b) + o)) 2) ?_
    refine mo_ialdN hC hK hM 4 ((6 * ((64 * b) + o)) + 2) (by decide) rfl (n := 3072) rfl (by decide) (i := nI ((6 * ((64 * b) + o)) + 2)) (rfl) (by omega) (v := iI (nb 2)) (hnb 2 (by unfold nOf; (repeat' split) <;> omega)) d_Mo_goDown_210 ?_
    refine lv_i2l (v := iL (nb 2)) hx hb d_Mo_goDown_211 (iI_l (z := nb 2) (by omega) (by omega)) ?_
    refine lv_lsub hx hb d_Mo_goDown_212 ?_
    refine topl_eq (iL_sub (B 4) (nb 2)) ?_
    refine mo_lastN hC hK hM 20 k (by decide) rfl (n := 64) rfl (by decide) (i := nI k) (x := iL ((B 4) - (nb 2))) (rfl) (by omega) d_Mo_goDown_213 (fun H locs hM => ?_)
    rw [up_swap (i := 21) (j := 20) (by decide), bx_uu] at hM
    replace hM : MO D cT ad I J a (va_up (va_up (va_up (va_up (va_up (va_up g 16 (vp_updL (g 16) k (iL ((B 0) - (nb 0))))) 17 (vp_updL (g 17) k (iL ((B 1) - (nb 0))))) 18 (vp_updL (g 18) k (iL ((B 2) - (nb 1))))) 19 (vp_updL (g 19) k (iL ((B 3) - (nb 1))))) 20 (vp_updL (vp_updL (g 20) k (iL (B 4))) k (iL ((B 4) - (nb 2))))) 21 (vp_updL (g 21) k (iL (B 5)))) s.heap H locs := hM
    rw [updL_updL] at hM
    refine lv_aload_n hx hb d_Mo_goDown_214 rfl (lv_at hl 5 rfl) ?_
    refine mo_getr hC hK hM 21 wf_Mo_47 rfl (by decide) (by decide) d_Mo_goDown_215 ?_
    refine lv_iload_n hx hb d_Mo_goDown_218 rfl (lv_at hl 7 rfl) ?_
    refine lv_dup2_11 hx hb d_Mo_goDown_219 rfl rfl ?_
    refine mo_laldN hC hK hM 21 k (by decide) rfl (n := 64) rfl (by decide) (i := nI k) (rfl) (by omega) (v := iL (B 5)) (pk_uLs) d_Mo_goDown_220 ?_
    refine lv_aload_n hx hb d_Mo_goDown_221 rfl (lv_at hl 5 rfl) ?_
    refine mo_getr hC hK hM 4 wf_Mo_19 rfl (by decide) (by decide) d_Mo_goDown_222 ?_
    refine lv_iload hx hb d_Mo_goDown_225 (lv_at hl 3 rfl) ?_
    refine lv_iconst (v := 2) hx hb d_Mo_goDown_227 (by decide) ?_
    refine lv_iadd hx hb d_Mo_goDown_228 ?_
    refine topi_eq (nI_add (6 * ((64 * b) + o)) 2) ?_
    refine mo_ialdN hC hK hM 4 ((6 * ((64 * b) + o)) + 2) (by decide) rfl (n := 3072) rfl (by decide) (i := nI ((6 * ((64 * b) + o)) + 2)) (rfl) (by omega) (v := iI (nb 2)) (hnb 2 (by unfold nOf; (repeat' split) <;> omega)) d_Mo_goDown_229 ?_
    refine lv_i2l (v := iL (nb 2)) hx hb d_Mo_goDown_230 (iI_l (z := nb 2) (by omega) (by omega)) ?_
    refine lv_lsub hx hb d_Mo_goDown_231 ?_
    refine topl_eq (iL_sub (B 5) (nb 2)) ?_
    refine mo_lastN hC hK hM 21 k (by decide) rfl (n := 64) rfl (by decide) (i := nI k) (x := iL ((B 5) - (nb 2))) (rfl) (by omega) d_Mo_goDown_232 (fun H locs hM => ?_)
    rw [bx_uu] at hM
    replace hM : MO D cT ad I J a (va_up (va_up (va_up (va_up (va_up (va_up g 16 (vp_updL (g 16) k (iL ((B 0) - (nb 0))))) 17 (vp_updL (g 17) k (iL ((B 1) - (nb 0))))) 18 (vp_updL (g 18) k (iL ((B 2) - (nb 1))))) 19 (vp_updL (g 19) k (iL ((B 3) - (nb 1))))) 20 (vp_updL (g 20) k (iL ((B 4) - (nb 2))))) 21 (vp_updL (vp_updL (g 21) k (iL (B 5))) k (iL ((B 5) - (nb 2))))) s.heap H locs := hM
    rw [updL_updL] at hM
    refine lv_iload hx hb d_Mo_goDown_233 (lv_at hl 2 rfl) ?_
    refine lv_bipush (v := 7) hx hb d_Mo_goDown_235 (by decide) ?_
    refine nc_ne hx hb kd 7 (by omega) (by omega) d_Mo_goDown_237 (tgt := 304) (by decide) (fun h16 => ?_) (fun h16 => ?_)
    · skip
      refine lv_iload hx hb d_Mo_goDown_304 (lv_at hl 2 rfl) ?_
      refine lv_bipush (v := 8) hx hb d_Mo_goDown_306 (by decide) ?_
      refine nc_ne hx hb kd 8 (by omega) (by omega) d_Mo_goDown_308 (tgt := 329) (by decide) (fun h17 => ?_) (fun h17 => ?_)
      · skip
        refine lv_iload hx hb d_Mo_goDown_329 (lv_at hl 2 rfl) ?_
        refine lv_bipush (v := 9) hx hb d_Mo_goDown_331 (by decide) ?_
        refine nc_ne hx hb kd 9 (by omega) (by omega) d_Mo_goDown_333 (tgt := 432) (by decide) (fun h18 => ?_) (fun h18 => ?_)
        · skip
          refine hret _ _ _ _ _ _ _ _ d_Mo_goDown_432 hM ?_
          subst h1
          have e0 : dn 6 nb B 0 = (B 0) - (nb 0) := rfl
          have e1 : dn 6 nb B 1 = (B 1) - (nb 0) := rfl
          have e2 : dn 6 nb B 2 = (B 2) - (nb 1) := rfl
          have e3 : dn 6 nb B 3 = (B 3) - (nb 1) := rfl
          have e4 : dn 6 nb B 4 = (B 4) - (nb 2) := rfl
          have e5 : dn 6 nb B 5 = (B 5) - (nb 2) := rfl
          have eg : va_up (va_up (va_up (va_up (va_up (va_up g 16 (vp_updL (g 16) k (iL ((B 0) - (nb 0))))) 17 (vp_updL (g 17) k (iL ((B 1) - (nb 0))))) 18 (vp_updL (g 18) k (iL ((B 2) - (nb 1))))) 19 (vp_updL (g 19) k (iL ((B 3) - (nb 1))))) 20 (vp_updL (g 20) k (iL ((B 4) - (nb 2))))) 21 (vp_updL (g 21) k (iL ((B 5) - (nb 2)))) = gbox g k (dn 6 nb B) := ?_
          · exact congrArg (fun z => (I, J, a, z)) eg
          unfold gbox
          rw [e0, e1, e2, e3, e4, e5]
          all_goals rfl
        · exfalso; omega
      · exfalso; omega
    · exfalso; omega
set_option maxHeartbeats 1000000 in
set_option maxRecDepth 100000 in
theorem c_Mo_leaf (l : Launch) (D : va_G) (cT : Nat → ClassId) (ad : Nat → Nat) (I : Nat → Int32) (J : Nat → Int64) (a : Nat → Nat → Int32) (g : Nat → Nat → Int64) (b : Nat) (k : Nat) (kd : Nat) (nb B : Nat → Int) (hb8 : b < 8) (hk : k < 64) (hkd : a 2 (64 * b + k) = nI kd) (hkd2 : kd < 3) (hnb : ∀ i, i < nOf kd → a 4 (6 * (64 * b + k) + i) = iI (nb i)) (hB : ∀ i, i < 6 → g (16 + i) k = iL (B i)) (bnb : ∀ i, -20 ≤ nb i ∧ nb i ≤ 20) (bB : ∀ i, -3000 ≤ B i ∧ B i ≤ 3000) : MMv l D cT ad y_Mo_leaf b_Mo_leaf 4 none 2 54 [.int (nI b), .int (nI k)] I J a g (fun r => r = (I, vp_updL (vp_updL J 24 (iL (lfL kd nb B))) 25 (iL (lfH kd nb B)), a, g)) := by
  refine mo_entv (by decide) rfl (Nat.le_of_ble_eq_true rfl) ?_
  intro p e s m args below meth c Q hC hK hM hret ls hl
  have hx := hC.1
  have hb := hC.2.1
  replace hl : lv_has ls 4 [(0, .ref (ad 46)), (1, .int (nI b)), (2, .int (nI k))] := hl
  have bn0 := bnb 0
  have bn1 := bnb 1
  have bn2 := bnb 2
  have bn3 := bnb 3
  have bn4 := bnb 4
  have bn5 := bnb 5
  have b0 := bB 0
  have b1 := bB 1
  have b2 := bB 2
  have b3 := bB 3
  have b4 := bB 4
  have b5 := bB 5
  have s3 := sq_b (x := nb 3) (by omega) (by omega)
  refine lv_bipush (v := 6) hx hb d_Mo_leaf_0 (by decide) ?_
  refine lv_bipush (v := 64) hx hb d_Mo_leaf_2 (by decide) ?_
  refine lv_iload_n hx hb d_Mo_leaf_4 rfl (lv_at hl 1 rfl) ?_
  refine lv_imul hx hb d_Mo_leaf_5 ?_
  refine topi_eq (pk_mul 64 b) ?_
  refine lv_iload_n hx hb d_Mo_leaf_6 rfl (lv_at hl 2 rfl) ?_
  refine lv_iadd hx hb d_Mo_leaf_7 ?_
  refine topi_eq (nI_add (64 * b) k) ?_
  refine lv_imul hx hb d_Mo_leaf_8 ?_
  refine topi_eq (pk_mul 6 ((64 * b) + k)) ?_
  refine lv_istore_n (lv' := [(3, .int (nI (6 * ((64 * b) + k)))), (0, .ref (ad 46)), (1, .int (nI b)), (2, .int (nI k))]) hx hb d_Mo_leaf_9 rfl hl (by decide) rfl (fun ls hl => ?_)
  refine lv_aload_n hx hb d_Mo_leaf_10 rfl (lv_at hl 1 rfl) ?_
  refine lv_lconst (v := 0) hx hb d_Mo_leaf_11 (by decide) ?_
  refine mo_putj hC hK hM 24 wf_Mo_179 rfl rfl (by decide) rfl (by decide +kernel) (x := 0) d_Mo_leaf_12 (fun H locs hM => ?_)
  refine lv_aload_n hx hb d_Mo_leaf_15 rfl (lv_at hl 1 rfl) ?_
  refine lv_lconst (v := 0) hx hb d_Mo_leaf_16 (by decide) ?_
  refine mo_putj hC hK hM 25 wf_Mo_183 rfl rfl (by decide) rfl (by decide +kernel) (x := 0) d_Mo_leaf_17 (fun H locs hM => ?_)
  refine lv_aload_n hx hb d_Mo_leaf_20 rfl (lv_at hl 1 rfl) ?_
  refine mo_getr hC hK hM 2 wf_Mo_13 rfl (by decide) (by decide) d_Mo_leaf_21 ?_
  refine lv_bipush (v := 64) hx hb d_Mo_leaf_24 (by decide) ?_
  refine lv_iload_n hx hb d_Mo_leaf_26 rfl (lv_at hl 2 rfl) ?_
  refine lv_imul hx hb d_Mo_leaf_27 ?_
  refine topi_eq (pk_mul 64 b) ?_
  refine lv_iload_n hx hb d_Mo_leaf_28 rfl (lv_at hl 3 rfl) ?_
  refine lv_iadd hx hb d_Mo_leaf_29 ?_
  refine topi_eq (nI_add (64 * b) k) ?_
  refine mo_ialdN hC hK hM 2 ((64 * b) + k) (by decide) rfl (n := 512) rfl (by decide) (i := nI ((64 * b) + k)) (rfl) (by omega) (v := nI kd) (hkd) d_Mo_leaf_30 ?_
  by_cases h1_0 : kd = 0
  · have ev : (nI kd).toInt = 0 := by rw [h1_0]; rfl
    refine lv_lookup (tgt := 56) hx hb d_Mo_leaf_31 (by decide) (by rw [ev]; all_goals rfl) (by decide) ?_
    refine lv_aload_n hx hb d_Mo_leaf_56 rfl (lv_at hl 1 rfl) ?_
    refine lv_aload_n hx hb d_Mo_leaf_57 rfl (lv_at hl 1 rfl) ?_
    refine mo_getr hC hK hM 16 wf_Mo_31 rfl (by decide) (by decide) d_Mo_leaf_58 ?_
    refine lv_iload_n hx hb d_Mo_leaf_61 rfl (lv_at hl 3 rfl) ?_
    refine mo_laldN hC hK hM 16 k (by decide) rfl (n := 64) rfl (by decide) (i := nI k) (rfl) (by omega) (v := iL (B 0)) (hB 0 (by decide)) d_Mo_leaf_62 ?_
    refine lv_aload_n hx hb d_Mo_leaf_63 rfl (lv_at hl 1 rfl) ?_
    refine mo_getr hC hK hM 17 wf_Mo_35 rfl (by decide) (by decide) d_Mo_leaf_64 ?_
    refine lv_iload_n hx hb d_Mo_leaf_67 rfl (lv_at hl 3 rfl) ?_
    refine mo_laldN hC hK hM 17 k (by decide) rfl (n := 64) rfl (by decide) (i := nI k) (rfl) (by omega) (v := iL (B 1)) (hB 1 (by decide)) d_Mo_leaf_68 ?_
    refine lv_aload_n hx hb d_Mo_leaf_69 rfl (lv_at hl 1 rfl) ?_
    refine mo_getr hC hK hM 4 wf_Mo_19 rfl (by decide) (by decide) d_Mo_leaf_70 ?_
    refine lv_iload_n hx hb d_Mo_leaf_73 rfl (lv_at hl 0 rfl) ?_
    refine mo_ialdN hC hK hM 4 (6 * ((64 * b) + k)) (by decide) rfl (n := 3072) rfl (by decide) (i := nI (6 * ((64 * b) + k))) (rfl) (by omega) (v := iI (nb 0)) (hnb 0 (by unfold nOf; (repeat' split) <;> omega)) d_Mo_leaf_74 ?_
    refine mo_callv (np := 3) hC hK hM (c_Mo_addSquares l D cT ad I (vp_updL (vp_updL J 24 0) 25 0) a g (B 0) (B 1) (nb 0) 0 0 rfl rfl (by omega) (by omega) (by omega) (by omega) (by omega) (by omega)) rfl ⟨wl_Mo_186, wi_Mo_addSquares, ws_Mo_addSquares, wc_Mo_addSquares, wn_Mo⟩ ⟨by decide, by decide, by decide +kernel⟩ ⟨Nat.le_of_ble_eq_true rfl, Nat.le_of_ble_eq_true rfl⟩ hl.1 rfl (rest := []) rfl (Nat.le_of_ble_eq_true rfl) ⟨Nat.zero_le _, Nat.zero_le _⟩ d_Mo_leaf_75 (fun I2 J2 a2 g2 H locs hp2 hM => ?_)
    cases hp2
    rw [updL_swap (i := 25) (j := 24) (by decide), updL_updL, updL_updL] at hM
    refine lv_aload_n hx hb d_Mo_leaf_78 rfl (lv_at hl 1 rfl) ?_
    refine lv_aload_n hx hb d_Mo_leaf_79 rfl (lv_at hl 1 rfl) ?_
    refine mo_getr hC hK hM 18 wf_Mo_38 rfl (by decide) (by decide) d_Mo_leaf_80 ?_
    refine lv_iload_n hx hb d_Mo_leaf_83 rfl (lv_at hl 3 rfl) ?_
    refine mo_laldN hC hK hM 18 k (by decide) rfl (n := 64) rfl (by decide) (i := nI k) (rfl) (by omega) (v := iL (B 2)) (hB 2 (by decide)) d_Mo_leaf_84 ?_
    refine lv_aload_n hx hb d_Mo_leaf_85 rfl (lv_at hl 1 rfl) ?_
    refine mo_getr hC hK hM 19 wf_Mo_41 rfl (by decide) (by decide) d_Mo_leaf_86 ?_
    refine lv_iload_n hx hb d_Mo_leaf_89 rfl (lv_at hl 3 rfl) ?_
    refine mo_laldN hC hK hM 19 k (by decide) rfl (n := 64) rfl (by decide) (i := nI k) (rfl) (by omega) (v := iL (B 3)) (hB 3 (by decide)) d_Mo_leaf_90 ?_
    refine lv_aload_n hx hb d_Mo_leaf_91 rfl (lv_at hl 1 rfl) ?_
    refine mo_getr hC hK hM 4 wf_Mo_19 rfl (by decide) (by decide) d_Mo_leaf_92 ?_
    refine lv_iload_n hx hb d_Mo_leaf_95 rfl (lv_at hl 0 rfl) ?_
    refine lv_iconst (v := 1) hx hb d_Mo_leaf_96 (by decide) ?_
    refine lv_iadd hx hb d_Mo_leaf_97 ?_
    refine topi_eq (nI_add (6 * ((64 * b) + k)) 1) ?_
    refine mo_ialdN hC hK hM 4 ((6 * ((64 * b) + k)) + 1) (by decide) rfl (n := 3072) rfl (by decide) (i := nI ((6 * ((64 * b) + k)) + 1)) (rfl) (by omega) (v := iI (nb 1)) (hnb 1 (by unfold nOf; (repeat' split) <;> omega)) d_Mo_leaf_98 ?_
    refine mo_callv (np := 3) hC hK hM (c_Mo_addSquares l D cT ad I (vp_updL (vp_updL J 24 (iL (0 + sqL (B 0) (B 1) (nb 0)))) 25 (iL (0 + sqH (B 0) (B 1) (nb 0)))) a g (B 2) (B 3) (nb 1) (0 + sqL (B 0) (B 1) (nb 0)) (0 + sqH (B 0) (B 1) (nb 0)) rfl rfl (by omega) (by omega) (by omega) (by omega) (by omega) (by omega)) rfl ⟨wl_Mo_186, wi_Mo_addSquares, ws_Mo_addSquares, wc_Mo_addSquares, wn_Mo⟩ ⟨by decide, by decide, by decide +kernel⟩ ⟨Nat.le_of_ble_eq_true rfl, Nat.le_of_ble_eq_true rfl⟩ hl.1 rfl (rest := []) rfl (Nat.le_of_ble_eq_true rfl) ⟨Nat.zero_le _, Nat.zero_le _⟩ d_Mo_leaf_99 (fun I3 J3 a3 g3 H locs hp3 hM => ?_)
    cases hp3
    rw [updL_swap (i := 25) (j := 24) (by decide), updL_updL, updL_updL] at hM
    refine lv_aload_n hx hb d_Mo_leaf_102 rfl (lv_at hl 1 rfl) ?_
    refine lv_aload_n hx hb d_Mo_leaf_103 rfl (lv_at hl 1 rfl) ?_
    refine mo_getr hC hK hM 20 wf_Mo_44 rfl (by decide) (by decide) d_Mo_leaf_104 ?_
    refine lv_iload_n hx hb d_Mo_leaf_107 rfl (lv_at hl 3 rfl) ?_
    refine mo_laldN hC hK hM 20 k (by decide) rfl (n := 64) rfl (by decide) (i := nI k) (rfl) (by omega) (v := iL (B 4)) (hB 4 (by decide)) d_Mo_leaf_108 ?_
    refine lv_aload_n hx hb d_Mo_leaf_109 rfl (lv_at hl 1 rfl) ?_
    refine mo_getr hC hK hM 21 wf_Mo_47 rfl (by decide) (by decide) d_Mo_leaf_110 ?_
    refine lv_iload_n hx hb d_Mo_leaf_113 rfl (lv_at hl 3 rfl) ?_
    refine mo_laldN hC hK hM 21 k (by decide) rfl (n := 64) rfl (by decide) (i := nI k) (rfl) (by omega) (v := iL (B 5)) (hB 5 (by decide)) d_Mo_leaf_114 ?_
    refine lv_aload_n hx hb d_Mo_leaf_115 rfl (lv_at hl 1 rfl) ?_
    refine mo_getr hC hK hM 4 wf_Mo_19 rfl (by decide) (by decide) d_Mo_leaf_116 ?_
    refine lv_iload_n hx hb d_Mo_leaf_119 rfl (lv_at hl 0 rfl) ?_
    refine lv_iconst (v := 2) hx hb d_Mo_leaf_120 (by decide) ?_
    refine lv_iadd hx hb d_Mo_leaf_121 ?_
    refine topi_eq (nI_add (6 * ((64 * b) + k)) 2) ?_
    refine mo_ialdN hC hK hM 4 ((6 * ((64 * b) + k)) + 2) (by decide) rfl (n := 3072) rfl (by decide) (i := nI ((6 * ((64 * b) + k)) + 2)) (rfl) (by omega) (v := iI (nb 2)) (hnb 2 (by unfold nOf; (repeat' split) <;> omega)) d_Mo_leaf_122 ?_
    refine mo_callv (np := 3) hC hK hM (c_Mo_addSquares l D cT ad I (vp_updL (vp_updL J 24 (iL ((0 + sqL (B 0) (B 1) (nb 0)) + sqL (B 2) (B 3) (nb 1)))) 25 (iL ((0 + sqH (B 0) (B 1) (nb 0)) + sqH (B 2) (B 3) (nb 1)))) a g (B 4) (B 5) (nb 2) ((0 + sqL (B 0) (B 1) (nb 0)) + sqL (B 2) (B 3) (nb 1)) ((0 + sqH (B 0) (B 1) (nb 0)) + sqH (B 2) (B 3) (nb 1)) rfl rfl (by omega) (by omega) (by omega) (by omega) (by omega) (by omega)) rfl ⟨wl_Mo_186, wi_Mo_addSquares, ws_Mo_addSquares, wc_Mo_addSquares, wn_Mo⟩ ⟨by decide, by decide, by decide +kernel⟩ ⟨Nat.le_of_ble_eq_true rfl, Nat.le_of_ble_eq_true rfl⟩ hl.1 rfl (rest := []) rfl (Nat.le_of_ble_eq_true rfl) ⟨Nat.zero_le _, Nat.zero_le _⟩ d_Mo_leaf_123 (fun I4 J4 a4 g4 H locs hp4 hM => ?_)
    cases hp4
    rw [updL_swap (i := 25) (j := 24) (by decide), updL_updL, updL_updL] at hM
    refine lv_aload_n hx hb d_Mo_leaf_126 rfl (lv_at hl 1 rfl) ?_
    refine lv_dup hx hb d_Mo_leaf_127 rfl ?_
    refine mo_getj hC hK hM 24 wf_Mo_179 rfl rfl (by decide) (v := iL (((0 + sqL (B 0) (B 1) (nb 0)) + sqL (B 2) (B 3) (nb 1)) + sqL (B 4) (B 5) (nb 2))) (rfl) d_Mo_leaf_128 ?_
    refine lv_aload_n hx hb d_Mo_leaf_131 rfl (lv_at hl 1 rfl) ?_
    refine mo_getr hC hK hM 4 wf_Mo_19 rfl (by decide) (by decide) d_Mo_leaf_132 ?_
    refine lv_iload_n hx hb d_Mo_leaf_135 rfl (lv_at hl 0 rfl) ?_
    refine lv_iconst (v := 3) hx hb d_Mo_leaf_136 (by decide) ?_
    refine lv_iadd hx hb d_Mo_leaf_137 ?_
    refine topi_eq (nI_add (6 * ((64 * b) + k)) 3) ?_
    refine mo_ialdN hC hK hM 4 ((6 * ((64 * b) + k)) + 3) (by decide) rfl (n := 3072) rfl (by decide) (i := nI ((6 * ((64 * b) + k)) + 3)) (rfl) (by omega) (v := iI (nb 3)) (hnb 3 (by unfold nOf; (repeat' split) <;> omega)) d_Mo_leaf_138 ?_
    refine lv_aload_n hx hb d_Mo_leaf_139 rfl (lv_at hl 1 rfl) ?_
    refine mo_getr hC hK hM 4 wf_Mo_19 rfl (by decide) (by decide) d_Mo_leaf_140 ?_
    refine lv_iload_n hx hb d_Mo_leaf_143 rfl (lv_at hl 0 rfl) ?_
    refine lv_iconst (v := 3) hx hb d_Mo_leaf_144 (by decide) ?_
    refine lv_iadd hx hb d_Mo_leaf_145 ?_
    refine topi_eq (nI_add (6 * ((64 * b) + k)) 3) ?_
    refine mo_ialdN hC hK hM 4 ((6 * ((64 * b) + k)) + 3) (by decide) rfl (n := 3072) rfl (by decide) (i := nI ((6 * ((64 * b) + k)) + 3)) (rfl) (by omega) (v := iI (nb 3)) (hnb 3 (by unfold nOf; (repeat' split) <;> omega)) d_Mo_leaf_146 ?_
    refine lv_imul hx hb d_Mo_leaf_147 ?_
    refine topi_eq (iI_mul (nb 3) (nb 3)) ?_
    refine lv_i2l (v := iL ((nb 3) * (nb 3))) hx hb d_Mo_leaf_148 (iI_l (z := (nb 3) * (nb 3)) (by omega) (by omega)) ?_
    refine lv_lsub hx hb d_Mo_leaf_149 ?_
    refine topl_eq (iL_sub (((0 + sqL (B 0) (B 1) (nb 0)) + sqL (B 2) (B 3) (nb 1)) + sqL (B 4) (B 5) (nb 2)) ((nb 3) * (nb 3))) ?_
    refine mo_putj hC hK hM 24 wf_Mo_179 rfl rfl (by decide) rfl (by decide +kernel) (x := iL ((((0 + sqL (B 0) (B 1) (nb 0)) + sqL (B 2) (B 3) (nb 1)) + sqL (B 4) (B 5) (nb 2)) - ((nb 3) * (nb 3)))) d_Mo_leaf_150 (fun H locs hM => ?_)
    rw [updL_swap (i := 25) (j := 24) (by decide), updL_updL] at hM
    refine lv_aload_n hx hb d_Mo_leaf_153 rfl (lv_at hl 1 rfl) ?_
    refine lv_dup hx hb d_Mo_leaf_154 rfl ?_
    refine mo_getj hC hK hM 25 wf_Mo_183 rfl rfl (by decide) (v := iL (((0 + sqH (B 0) (B 1) (nb 0)) + sqH (B 2) (B 3) (nb 1)) + sqH (B 4) (B 5) (nb 2))) (rfl) d_Mo_leaf_155 ?_
    refine lv_aload_n hx hb d_Mo_leaf_158 rfl (lv_at hl 1 rfl) ?_
    refine mo_getr hC hK hM 4 wf_Mo_19 rfl (by decide) (by decide) d_Mo_leaf_159 ?_
    refine lv_iload_n hx hb d_Mo_leaf_162 rfl (lv_at hl 0 rfl) ?_
    refine lv_iconst (v := 3) hx hb d_Mo_leaf_163 (by decide) ?_
    refine lv_iadd hx hb d_Mo_leaf_164 ?_
    refine topi_eq (nI_add (6 * ((64 * b) + k)) 3) ?_
    refine mo_ialdN hC hK hM 4 ((6 * ((64 * b) + k)) + 3) (by decide) rfl (n := 3072) rfl (by decide) (i := nI ((6 * ((64 * b) + k)) + 3)) (rfl) (by omega) (v := iI (nb 3)) (hnb 3 (by unfold nOf; (repeat' split) <;> omega)) d_Mo_leaf_165 ?_
    refine lv_aload_n hx hb d_Mo_leaf_166 rfl (lv_at hl 1 rfl) ?_
    refine mo_getr hC hK hM 4 wf_Mo_19 rfl (by decide) (by decide) d_Mo_leaf_167 ?_
    refine lv_iload_n hx hb d_Mo_leaf_170 rfl (lv_at hl 0 rfl) ?_
    refine lv_iconst (v := 3) hx hb d_Mo_leaf_171 (by decide) ?_
    refine lv_iadd hx hb d_Mo_leaf_172 ?_
    refine topi_eq (nI_add (6 * ((64 * b) + k)) 3) ?_
    refine mo_ialdN hC hK hM 4 ((6 * ((64 * b) + k)) + 3) (by decide) rfl (n := 3072) rfl (by decide) (i := nI ((6 * ((64 * b) + k)) + 3)) (rfl) (by omega) (v := iI (nb 3)) (hnb 3 (by unfold nOf; (repeat' split) <;> omega)) d_Mo_leaf_173 ?_
    refine lv_imul hx hb d_Mo_leaf_174 ?_
    refine topi_eq (iI_mul (nb 3) (nb 3)) ?_
    refine lv_i2l (v := iL ((nb 3) * (nb 3))) hx hb d_Mo_leaf_175 (iI_l (z := (nb 3) * (nb 3)) (by omega) (by omega)) ?_
    refine lv_lsub hx hb d_Mo_leaf_176 ?_
    refine topl_eq (iL_sub (((0 + sqH (B 0) (B 1) (nb 0)) + sqH (B 2) (B 3) (nb 1)) + sqH (B 4) (B 5) (nb 2)) ((nb 3) * (nb 3))) ?_
    refine mo_putj hC hK hM 25 wf_Mo_183 rfl rfl (by decide) rfl (by decide +kernel) (x := iL ((((0 + sqH (B 0) (B 1) (nb 0)) + sqH (B 2) (B 3) (nb 1)) + sqH (B 4) (B 5) (nb 2)) - ((nb 3) * (nb 3)))) d_Mo_leaf_177 (fun H locs hM => ?_)
    rw [updL_updL] at hM
    refine lv_goto (tgt := 528) hx hb d_Mo_leaf_180 (by decide) ?_
    refine hret _ _ _ _ _ _ _ _ d_Mo_leaf_528 hM ?_
    subst h1_0
    rfl
  by_cases h1_1 : kd = 1
  · have ev : (nI kd).toInt = 1 := by rw [h1_1]; rfl
    refine lv_lookup (tgt := 183) hx hb d_Mo_leaf_31 (by decide) (by rw [ev]; all_goals rfl) (by decide) ?_
    refine lv_aload_n hx hb d_Mo_leaf_183 rfl (lv_at hl 1 rfl) ?_
    refine lv_aload_n hx hb d_Mo_leaf_184 rfl (lv_at hl 1 rfl) ?_
    refine mo_getr hC hK hM 4 wf_Mo_19 rfl (by decide) (by decide) d_Mo_leaf_185 ?_
    refine lv_iload_n hx hb d_Mo_leaf_188 rfl (lv_at hl 0 rfl) ?_
    refine mo_ialdN hC hK hM 4 (6 * ((64 * b) + k)) (by decide) rfl (n := 3072) rfl (by decide) (i := nI (6 * ((64 * b) + k))) (rfl) (by omega) (v := iI (nb 0)) (hnb 0 (by unfold nOf; (repeat' split) <;> omega)) d_Mo_leaf_189 ?_
    refine lv_i2l (v := iL (nb 0)) hx hb d_Mo_leaf_190 (iI_l (z := nb 0) (by omega) (by omega)) ?_
    refine lv_aload_n hx hb d_Mo_leaf_191 rfl (lv_at hl 1 rfl) ?_
    refine mo_getr hC hK hM 17 wf_Mo_35 rfl (by decide) (by decide) d_Mo_leaf_192 ?_
    refine lv_iload_n hx hb d_Mo_leaf_195 rfl (lv_at hl 3 rfl) ?_
    refine mo_laldN hC hK hM 17 k (by decide) rfl (n := 64) rfl (by decide) (i := nI k) (rfl) (by omega) (v := iL (B 1)) (hB 1 (by decide)) d_Mo_leaf_196 ?_
    refine lv_lsub hx hb d_Mo_leaf_197 ?_
    refine topl_eq (iL_sub (nb 0) (B 1)) ?_
    refine mo_putj hC hK hM 24 wf_Mo_179 rfl rfl (by decide) rfl (by decide +kernel) (x := iL ((nb 0) - (B 1))) d_Mo_leaf_198 (fun H locs hM => ?_)
    rw [updL_swap (i := 25) (j := 24) (by decide), updL_updL] at hM
    refine lv_aload_n hx hb d_Mo_leaf_201 rfl (lv_at hl 1 rfl) ?_
    refine lv_aload_n hx hb d_Mo_leaf_202 rfl (lv_at hl 1 rfl) ?_
    refine mo_getr hC hK hM 4 wf_Mo_19 rfl (by decide) (by decide) d_Mo_leaf_203 ?_
    refine lv_iload_n hx hb d_Mo_leaf_206 rfl (lv_at hl 0 rfl) ?_
    refine mo_ialdN hC hK hM 4 (6 * ((64 * b) + k)) (by decide) rfl (n := 3072) rfl (by decide) (i := nI (6 * ((64 * b) + k))) (rfl) (by omega) (v := iI (nb 0)) (hnb 0 (by unfold nOf; (repeat' split) <;> omega)) d_Mo_leaf_207 ?_
    refine lv_i2l (v := iL (nb 0)) hx hb d_Mo_leaf_208 (iI_l (z := nb 0) (by omega) (by omega)) ?_
    refine lv_aload_n hx hb d_Mo_leaf_209 rfl (lv_at hl 1 rfl) ?_
    refine mo_getr hC hK hM 16 wf_Mo_31 rfl (by decide) (by decide) d_Mo_leaf_210 ?_
    refine lv_iload_n hx hb d_Mo_leaf_213 rfl (lv_at hl 3 rfl) ?_
    refine mo_laldN hC hK hM 16 k (by decide) rfl (n := 64) rfl (by decide) (i := nI k) (rfl) (by omega) (v := iL (B 0)) (hB 0 (by decide)) d_Mo_leaf_214 ?_
    refine lv_lsub hx hb d_Mo_leaf_215 ?_
    refine topl_eq (iL_sub (nb 0) (B 0)) ?_
    refine mo_putj hC hK hM 25 wf_Mo_183 rfl rfl (by decide) rfl (by decide +kernel) (x := iL ((nb 0) - (B 0))) d_Mo_leaf_216 (fun H locs hM => ?_)
    rw [updL_updL] at hM
    refine lv_aload_n hx hb d_Mo_leaf_219 rfl (lv_at hl 1 rfl) ?_
    refine lv_aload_n hx hb d_Mo_leaf_220 rfl (lv_at hl 1 rfl) ?_
    refine mo_getr hC hK hM 16 wf_Mo_31 rfl (by decide) (by decide) d_Mo_leaf_221 ?_
    refine lv_iload_n hx hb d_Mo_leaf_224 rfl (lv_at hl 3 rfl) ?_
    refine mo_laldN hC hK hM 16 k (by decide) rfl (n := 64) rfl (by decide) (i := nI k) (rfl) (by omega) (v := iL (B 0)) (hB 0 (by decide)) d_Mo_leaf_225 ?_
    refine lv_aload_n hx hb d_Mo_leaf_226 rfl (lv_at hl 1 rfl) ?_
    refine mo_getr hC hK hM 4 wf_Mo_19 rfl (by decide) (by decide) d_Mo_leaf_227 ?_
    refine lv_iload_n hx hb d_Mo_leaf_230 rfl (lv_at hl 0 rfl) ?_
    refine lv_iconst (v := 3) hx hb d_Mo_leaf_231 (by decide) ?_
    refine lv_iadd hx hb d_Mo_leaf_232 ?_
    refine topi_eq (nI_add (6 * ((64 * b) + k)) 3) ?_
    refine mo_ialdN hC hK hM 4 ((6 * ((64 * b) + k)) + 3) (by decide) rfl (n := 3072) rfl (by decide) (i := nI ((6 * ((64 * b) + k)) + 3)) (rfl) (by omega) (v := iI (nb 3)) (hnb 3 (by unfold nOf; (repeat' split) <;> omega)) d_Mo_leaf_233 ?_
    refine lv_i2l (v := iL (nb 3)) hx hb d_Mo_leaf_234 (iI_l (z := nb 3) (by omega) (by omega)) ?_
    refine lv_lsub hx hb d_Mo_leaf_235 ?_
    refine topl_eq (iL_sub (B 0) (nb 3)) ?_
    refine lv_aload_n hx hb d_Mo_leaf_236 rfl (lv_at hl 1 rfl) ?_
    refine mo_getr hC hK hM 17 wf_Mo_35 rfl (by decide) (by decide) d_Mo_leaf_237 ?_
    refine lv_iload_n hx hb d_Mo_leaf_240 rfl (lv_at hl 3 rfl) ?_
    refine mo_laldN hC hK hM 17 k (by decide) rfl (n := 64) rfl (by decide) (i := nI k) (rfl) (by omega) (v := iL (B 1)) (hB 1 (by decide)) d_Mo_leaf_241 ?_
    refine lv_aload_n hx hb d_Mo_leaf_242 rfl (lv_at hl 1 rfl) ?_
    refine mo_getr hC hK hM 4 wf_Mo_19 rfl (by decide) (by decide) d_Mo_leaf_243 ?_
    refine lv_iload_n hx hb d_Mo_leaf_246 rfl (lv_at hl 0 rfl) ?_
    refine lv_iconst (v := 3) hx hb d_Mo_leaf_247 (by decide) ?_
    refine lv_iadd hx hb d_Mo_leaf_248 ?_
    refine topi_eq (nI_add (6 * ((64 * b) + k)) 3) ?_
    refine mo_ialdN hC hK hM 4 ((6 * ((64 * b) + k)) + 3) (by decide) rfl (n := 3072) rfl (by decide) (i := nI ((6 * ((64 * b) + k)) + 3)) (rfl) (by omega) (v := iI (nb 3)) (hnb 3 (by unfold nOf; (repeat' split) <;> omega)) d_Mo_leaf_249 ?_
    refine lv_i2l (v := iL (nb 3)) hx hb d_Mo_leaf_250 (iI_l (z := nb 3) (by omega) (by omega)) ?_
    refine lv_lsub hx hb d_Mo_leaf_251 ?_
    refine topl_eq (iL_sub (B 1) (nb 3)) ?_
    refine mo_callv (np := 2) hC hK hM (c_Mo_greater l D cT ad I (vp_updL (vp_updL J 24 (iL ((nb 0) - (B 1)))) 25 (iL ((nb 0) - (B 0)))) a g ((B 0) - (nb 3)) ((B 1) - (nb 3)) ((nb 0) - (B 1)) ((nb 0) - (B 0)) rfl rfl (by omega) (by omega) (by omega) (by omega)) rfl ⟨wl_Mo_190, wi_Mo_greater, ws_Mo_greater, wc_Mo_greater, wn_Mo⟩ ⟨by decide, by decide, by decide +kernel⟩ ⟨Nat.le_of_ble_eq_true rfl, Nat.le_of_ble_eq_true rfl⟩ hl.1 rfl (rest := []) rfl (Nat.le_of_ble_eq_true rfl) ⟨Nat.zero_le _, Nat.zero_le _⟩ d_Mo_leaf_252 (fun I5 J5 a5 g5 H locs hp5 hM => ?_)
    cases hp5
    rw [updL_swap (i := 25) (j := 24) (by decide), updL_updL, updL_updL] at hM
    refine lv_aload_n hx hb d_Mo_leaf_255 rfl (lv_at hl 1 rfl) ?_
    refine lv_aload_n hx hb d_Mo_leaf_256 rfl (lv_at hl 1 rfl) ?_
    refine mo_getr hC hK hM 4 wf_Mo_19 rfl (by decide) (by decide) d_Mo_leaf_257 ?_
    refine lv_iload_n hx hb d_Mo_leaf_260 rfl (lv_at hl 0 rfl) ?_
    refine lv_iconst (v := 1) hx hb d_Mo_leaf_261 (by decide) ?_
    refine lv_iadd hx hb d_Mo_leaf_262 ?_
    refine topi_eq (nI_add (6 * ((64 * b) + k)) 1) ?_
    refine mo_ialdN hC hK hM 4 ((6 * ((64 * b) + k)) + 1) (by decide) rfl (n := 3072) rfl (by decide) (i := nI ((6 * ((64 * b) + k)) + 1)) (rfl) (by omega) (v := iI (nb 1)) (hnb 1 (by unfold nOf; (repeat' split) <;> omega)) d_Mo_leaf_263 ?_
    refine lv_i2l (v := iL (nb 1)) hx hb d_Mo_leaf_264 (iI_l (z := nb 1) (by omega) (by omega)) ?_
    refine lv_aload_n hx hb d_Mo_leaf_265 rfl (lv_at hl 1 rfl) ?_
    refine mo_getr hC hK hM 19 wf_Mo_41 rfl (by decide) (by decide) d_Mo_leaf_266 ?_
    refine lv_iload_n hx hb d_Mo_leaf_269 rfl (lv_at hl 3 rfl) ?_
    refine mo_laldN hC hK hM 19 k (by decide) rfl (n := 64) rfl (by decide) (i := nI k) (rfl) (by omega) (v := iL (B 3)) (hB 3 (by decide)) d_Mo_leaf_270 ?_
    refine lv_lsub hx hb d_Mo_leaf_271 ?_
    refine topl_eq (iL_sub (nb 1) (B 3)) ?_
    refine lv_aload_n hx hb d_Mo_leaf_272 rfl (lv_at hl 1 rfl) ?_
    refine mo_getr hC hK hM 4 wf_Mo_19 rfl (by decide) (by decide) d_Mo_leaf_273 ?_
    refine lv_iload_n hx hb d_Mo_leaf_276 rfl (lv_at hl 0 rfl) ?_
    refine lv_iconst (v := 1) hx hb d_Mo_leaf_277 (by decide) ?_
    refine lv_iadd hx hb d_Mo_leaf_278 ?_
    refine topi_eq (nI_add (6 * ((64 * b) + k)) 1) ?_
    refine mo_ialdN hC hK hM 4 ((6 * ((64 * b) + k)) + 1) (by decide) rfl (n := 3072) rfl (by decide) (i := nI ((6 * ((64 * b) + k)) + 1)) (rfl) (by omega) (v := iI (nb 1)) (hnb 1 (by unfold nOf; (repeat' split) <;> omega)) d_Mo_leaf_279 ?_
    refine lv_i2l (v := iL (nb 1)) hx hb d_Mo_leaf_280 (iI_l (z := nb 1) (by omega) (by omega)) ?_
    refine lv_aload_n hx hb d_Mo_leaf_281 rfl (lv_at hl 1 rfl) ?_
    refine mo_getr hC hK hM 18 wf_Mo_38 rfl (by decide) (by decide) d_Mo_leaf_282 ?_
    refine lv_iload_n hx hb d_Mo_leaf_285 rfl (lv_at hl 3 rfl) ?_
    refine mo_laldN hC hK hM 18 k (by decide) rfl (n := 64) rfl (by decide) (i := nI k) (rfl) (by omega) (v := iL (B 2)) (hB 2 (by decide)) d_Mo_leaf_286 ?_
    refine lv_lsub hx hb d_Mo_leaf_287 ?_
    refine topl_eq (iL_sub (nb 1) (B 2)) ?_
    refine mo_callv (np := 2) hC hK hM (c_Mo_greater l D cT ad I (vp_updL (vp_updL J 24 (iL (mx ((nb 0) - (B 1)) ((B 0) - (nb 3))))) 25 (iL (mx ((nb 0) - (B 0)) ((B 1) - (nb 3))))) a g ((nb 1) - (B 3)) ((nb 1) - (B 2)) (mx ((nb 0) - (B 1)) ((B 0) - (nb 3))) (mx ((nb 0) - (B 0)) ((B 1) - (nb 3))) rfl rfl (mxb (by omega) (by omega)) (mxb (by omega) (by omega)) (by omega) (by omega)) rfl ⟨wl_Mo_190, wi_Mo_greater, ws_Mo_greater, wc_Mo_greater, wn_Mo⟩ ⟨by decide, by decide, by decide +kernel⟩ ⟨Nat.le_of_ble_eq_true rfl, Nat.le_of_ble_eq_true rfl⟩ hl.1 rfl (rest := []) rfl (Nat.le_of_ble_eq_true rfl) ⟨Nat.zero_le _, Nat.zero_le _⟩ d_Mo_leaf_288 (fun I6 J6 a6 g6 H locs hp6 hM => ?_)
    cases hp6
    rw [updL_swap (i := 25) (j := 24) (by decide), updL_updL, updL_updL] at hM
    refine lv_aload_n hx hb d_Mo_leaf_291 rfl (lv_at hl 1 rfl) ?_
    refine lv_aload_n hx hb d_Mo_leaf_292 rfl (lv_at hl 1 rfl) ?_
    refine mo_getr hC hK hM 18 wf_Mo_38 rfl (by decide) (by decide) d_Mo_leaf_293 ?_
    refine lv_iload_n hx hb d_Mo_leaf_296 rfl (lv_at hl 3 rfl) ?_
    refine mo_laldN hC hK hM 18 k (by decide) rfl (n := 64) rfl (by decide) (i := nI k) (rfl) (by omega) (v := iL (B 2)) (hB 2 (by decide)) d_Mo_leaf_297 ?_
    refine lv_aload_n hx hb d_Mo_leaf_298 rfl (lv_at hl 1 rfl) ?_
    refine mo_getr hC hK hM 4 wf_Mo_19 rfl (by decide) (by decide) d_Mo_leaf_299 ?_
    refine lv_iload_n hx hb d_Mo_leaf_302 rfl (lv_at hl 0 rfl) ?_
    refine lv_iconst (v := 4) hx hb d_Mo_leaf_303 (by decide) ?_
    refine lv_iadd hx hb d_Mo_leaf_304 ?_
    refine topi_eq (nI_add (6 * ((64 * b) + k)) 4) ?_
    refine mo_ialdN hC hK hM 4 ((6 * ((64 * b) + k)) + 4) (by decide) rfl (n := 3072) rfl (by decide) (i := nI ((6 * ((64 * b) + k)) + 4)) (rfl) (by omega) (v := iI (nb 4)) (hnb 4 (by unfold nOf; (repeat' split) <;> omega)) d_Mo_leaf_305 ?_
    refine lv_i2l (v := iL (nb 4)) hx hb d_Mo_leaf_306 (iI_l (z := nb 4) (by omega) (by omega)) ?_
    refine lv_lsub hx hb d_Mo_leaf_307 ?_
    refine topl_eq (iL_sub (B 2) (nb 4)) ?_
    refine lv_aload_n hx hb d_Mo_leaf_308 rfl (lv_at hl 1 rfl) ?_
    refine mo_getr hC hK hM 19 wf_Mo_41 rfl (by decide) (by decide) d_Mo_leaf_309 ?_
    refine lv_iload_n hx hb d_Mo_leaf_312 rfl (lv_at hl 3 rfl) ?_
    refine mo_laldN hC hK hM 19 k (by decide) rfl (n := 64) rfl (by decide) (i := nI k) (rfl) (by omega) (v := iL (B 3)) (hB 3 (by decide)) d_Mo_leaf_313 ?_
    refine lv_aload_n hx hb d_Mo_leaf_314 rfl (lv_at hl 1 rfl) ?_
    refine mo_getr hC hK hM 4 wf_Mo_19 rfl (by decide) (by decide) d_Mo_leaf_315 ?_
    refine lv_iload_n hx hb d_Mo_leaf_318 rfl (lv_at hl 0 rfl) ?_
    refine lv_iconst (v := 4) hx hb d_Mo_leaf_319 (by decide) ?_
    refine lv_iadd hx hb d_Mo_leaf_320 ?_
    refine topi_eq (nI_add (6 * ((64 * b) + k)) 4) ?_
    refine mo_ialdN hC hK hM 4 ((6 * ((64 * b) + k)) + 4) (by decide) rfl (n := 3072) rfl (by decide) (i := nI ((6 * ((64 * b) + k)) + 4)) (rfl) (by omega) (v := iI (nb 4)) (hnb 4 (by unfold nOf; (repeat' split) <;> omega)) d_Mo_leaf_321 ?_
    refine lv_i2l (v := iL (nb 4)) hx hb d_Mo_leaf_322 (iI_l (z := nb 4) (by omega) (by omega)) ?_
    refine lv_lsub hx hb d_Mo_leaf_323 ?_
    refine topl_eq (iL_sub (B 3) (nb 4)) ?_
    refine mo_callv (np := 2) hC hK hM (c_Mo_greater l D cT ad I (vp_updL (vp_updL J 24 (iL (mx (mx ((nb 0) - (B 1)) ((B 0) - (nb 3))) ((nb 1) - (B 3))))) 25 (iL (mx (mx ((nb 0) - (B 0)) ((B 1) - (nb 3))) ((nb 1) - (B 2))))) a g ((B 2) - (nb 4)) ((B 3) - (nb 4)) (mx (mx ((nb 0) - (B 1)) ((B 0) - (nb 3))) ((nb 1) - (B 3))) (mx (mx ((nb 0) - (B 0)) ((B 1) - (nb 3))) ((nb 1) - (B 2))) rfl rfl (mxb (mxb (by omega) (by omega)) (by omega)) (mxb (mxb (by omega) (by omega)) (by omega)) (by omega) (by omega)) rfl ⟨wl_Mo_190, wi_Mo_greater, ws_Mo_greater, wc_Mo_greater, wn_Mo⟩ ⟨by decide, by decide, by decide +kernel⟩ ⟨Nat.le_of_ble_eq_true rfl, Nat.le_of_ble_eq_true rfl⟩ hl.1 rfl (rest := []) rfl (Nat.le_of_ble_eq_true rfl) ⟨Nat.zero_le _, Nat.zero_le _⟩ d_Mo_leaf_324 (fun I7 J7 a7 g7 H locs hp7 hM => ?_)
    cases hp7
    rw [updL_swap (i := 25) (j := 24) (by decide), updL_updL, updL_updL] at hM
    refine lv_aload_n hx hb d_Mo_leaf_327 rfl (lv_at hl 1 rfl) ?_
    refine lv_aload_n hx hb d_Mo_leaf_328 rfl (lv_at hl 1 rfl) ?_
    refine mo_getr hC hK hM 4 wf_Mo_19 rfl (by decide) (by decide) d_Mo_leaf_329 ?_
    refine lv_iload_n hx hb d_Mo_leaf_332 rfl (lv_at hl 0 rfl) ?_
    refine lv_iconst (v := 2) hx hb d_Mo_leaf_333 (by decide) ?_
    refine lv_iadd hx hb d_Mo_leaf_334 ?_
    refine topi_eq (nI_add (6 * ((64 * b) + k)) 2) ?_
    refine mo_ialdN hC hK hM 4 ((6 * ((64 * b) + k)) + 2) (by decide) rfl (n := 3072) rfl (by decide) (i := nI ((6 * ((64 * b) + k)) + 2)) (rfl) (by omega) (v := iI (nb 2)) (hnb 2 (by unfold nOf; (repeat' split) <;> omega)) d_Mo_leaf_335 ?_
    refine lv_i2l (v := iL (nb 2)) hx hb d_Mo_leaf_336 (iI_l (z := nb 2) (by omega) (by omega)) ?_
    refine lv_aload_n hx hb d_Mo_leaf_337 rfl (lv_at hl 1 rfl) ?_
    refine mo_getr hC hK hM 21 wf_Mo_47 rfl (by decide) (by decide) d_Mo_leaf_338 ?_
    refine lv_iload_n hx hb d_Mo_leaf_341 rfl (lv_at hl 3 rfl) ?_
    refine mo_laldN hC hK hM 21 k (by decide) rfl (n := 64) rfl (by decide) (i := nI k) (rfl) (by omega) (v := iL (B 5)) (hB 5 (by decide)) d_Mo_leaf_342 ?_
    refine lv_lsub hx hb d_Mo_leaf_343 ?_
    refine topl_eq (iL_sub (nb 2) (B 5)) ?_
    refine lv_aload_n hx hb d_Mo_leaf_344 rfl (lv_at hl 1 rfl) ?_
    refine mo_getr hC hK hM 4 wf_Mo_19 rfl (by decide) (by decide) d_Mo_leaf_345 ?_
    refine lv_iload_n hx hb d_Mo_leaf_348 rfl (lv_at hl 0 rfl) ?_
    refine lv_iconst (v := 2) hx hb d_Mo_leaf_349 (by decide) ?_
    refine lv_iadd hx hb d_Mo_leaf_350 ?_
    refine topi_eq (nI_add (6 * ((64 * b) + k)) 2) ?_
    refine mo_ialdN hC hK hM 4 ((6 * ((64 * b) + k)) + 2) (by decide) rfl (n := 3072) rfl (by decide) (i := nI ((6 * ((64 * b) + k)) + 2)) (rfl) (by omega) (v := iI (nb 2)) (hnb 2 (by unfold nOf; (repeat' split) <;> omega)) d_Mo_leaf_351 ?_
    refine lv_i2l (v := iL (nb 2)) hx hb d_Mo_leaf_352 (iI_l (z := nb 2) (by omega) (by omega)) ?_
    refine lv_aload_n hx hb d_Mo_leaf_353 rfl (lv_at hl 1 rfl) ?_
    refine mo_getr hC hK hM 20 wf_Mo_44 rfl (by decide) (by decide) d_Mo_leaf_354 ?_
    refine lv_iload_n hx hb d_Mo_leaf_357 rfl (lv_at hl 3 rfl) ?_
    refine mo_laldN hC hK hM 20 k (by decide) rfl (n := 64) rfl (by decide) (i := nI k) (rfl) (by omega) (v := iL (B 4)) (hB 4 (by decide)) d_Mo_leaf_358 ?_
    refine lv_lsub hx hb d_Mo_leaf_359 ?_
    refine topl_eq (iL_sub (nb 2) (B 4)) ?_
    refine mo_callv (np := 2) hC hK hM (c_Mo_greater l D cT ad I (vp_updL (vp_updL J 24 (iL (mx (mx (mx ((nb 0) - (B 1)) ((B 0) - (nb 3))) ((nb 1) - (B 3))) ((B 2) - (nb 4))))) 25 (iL (mx (mx (mx ((nb 0) - (B 0)) ((B 1) - (nb 3))) ((nb 1) - (B 2))) ((B 3) - (nb 4))))) a g ((nb 2) - (B 5)) ((nb 2) - (B 4)) (mx (mx (mx ((nb 0) - (B 1)) ((B 0) - (nb 3))) ((nb 1) - (B 3))) ((B 2) - (nb 4))) (mx (mx (mx ((nb 0) - (B 0)) ((B 1) - (nb 3))) ((nb 1) - (B 2))) ((B 3) - (nb 4))) rfl rfl (mxb (mxb (mxb (by omega) (by omega)) (by omega)) (by omega)) (mxb (mxb (mxb (by omega) (by omega)) (by omega)) (by omega)) (by omega) (by omega)) rfl ⟨wl_Mo_190, wi_Mo_greater, ws_Mo_greater, wc_Mo_greater, wn_Mo⟩ ⟨by decide, by decide, by decide +kernel⟩ ⟨Nat.le_of_ble_eq_true rfl, Nat.le_of_ble_eq_true rfl⟩ hl.1 rfl (rest := []) rfl (Nat.le_of_ble_eq_true rfl) ⟨Nat.zero_le _, Nat.zero_le _⟩ d_Mo_leaf_360 (fun I8 J8 a8 g8 H locs hp8 hM => ?_)
    cases hp8
    rw [updL_swap (i := 25) (j := 24) (by decide), updL_updL, updL_updL] at hM
    refine lv_aload_n hx hb d_Mo_leaf_363 rfl (lv_at hl 1 rfl) ?_
    refine lv_aload_n hx hb d_Mo_leaf_364 rfl (lv_at hl 1 rfl) ?_
    refine mo_getr hC hK hM 20 wf_Mo_44 rfl (by decide) (by decide) d_Mo_leaf_365 ?_
    refine lv_iload_n hx hb d_Mo_leaf_368 rfl (lv_at hl 3 rfl) ?_
    refine mo_laldN hC hK hM 20 k (by decide) rfl (n := 64) rfl (by decide) (i := nI k) (rfl) (by omega) (v := iL (B 4)) (hB 4 (by decide)) d_Mo_leaf_369 ?_
    refine lv_aload_n hx hb d_Mo_leaf_370 rfl (lv_at hl 1 rfl) ?_
    refine mo_getr hC hK hM 4 wf_Mo_19 rfl (by decide) (by decide) d_Mo_leaf_371 ?_
    refine lv_iload_n hx hb d_Mo_leaf_374 rfl (lv_at hl 0 rfl) ?_
    refine lv_iconst (v := 5) hx hb d_Mo_leaf_375 (by decide) ?_
    refine lv_iadd hx hb d_Mo_leaf_376 ?_
    refine topi_eq (nI_add (6 * ((64 * b) + k)) 5) ?_
    refine mo_ialdN hC hK hM 4 ((6 * ((64 * b) + k)) + 5) (by decide) rfl (n := 3072) rfl (by decide) (i := nI ((6 * ((64 * b) + k)) + 5)) (rfl) (by omega) (v := iI (nb 5)) (hnb 5 (by unfold nOf; (repeat' split) <;> omega)) d_Mo_leaf_377 ?_
    refine lv_i2l (v := iL (nb 5)) hx hb d_Mo_leaf_378 (iI_l (z := nb 5) (by omega) (by omega)) ?_
    refine lv_lsub hx hb d_Mo_leaf_379 ?_
    refine topl_eq (iL_sub (B 4) (nb 5)) ?_
    refine lv_aload_n hx hb d_Mo_leaf_380 rfl (lv_at hl 1 rfl) ?_
    refine mo_getr hC hK hM 21 wf_Mo_47 rfl (by decide) (by decide) d_Mo_leaf_381 ?_
    refine lv_iload_n hx hb d_Mo_leaf_384 rfl (lv_at hl 3 rfl) ?_
    refine mo_laldN hC hK hM 21 k (by decide) rfl (n := 64) rfl (by decide) (i := nI k) (rfl) (by omega) (v := iL (B 5)) (hB 5 (by decide)) d_Mo_leaf_385 ?_
    refine lv_aload_n hx hb d_Mo_leaf_386 rfl (lv_at hl 1 rfl) ?_
    refine mo_getr hC hK hM 4 wf_Mo_19 rfl (by decide) (by decide) d_Mo_leaf_387 ?_
    refine lv_iload_n hx hb d_Mo_leaf_390 rfl (lv_at hl 0 rfl) ?_
    refine lv_iconst (v := 5) hx hb d_Mo_leaf_391 (by decide) ?_
    refine lv_iadd hx hb d_Mo_leaf_392 ?_
    refine topi_eq (nI_add (6 * ((64 * b) + k)) 5) ?_
    refine mo_ialdN hC hK hM 4 ((6 * ((64 * b) + k)) + 5) (by decide) rfl (n := 3072) rfl (by decide) (i := nI ((6 * ((64 * b) + k)) + 5)) (rfl) (by omega) (v := iI (nb 5)) (hnb 5 (by unfold nOf; (repeat' split) <;> omega)) d_Mo_leaf_393 ?_
    refine lv_i2l (v := iL (nb 5)) hx hb d_Mo_leaf_394 (iI_l (z := nb 5) (by omega) (by omega)) ?_
    refine lv_lsub hx hb d_Mo_leaf_395 ?_
    refine topl_eq (iL_sub (B 5) (nb 5)) ?_
    refine mo_callv (np := 2) hC hK hM (c_Mo_greater l D cT ad I (vp_updL (vp_updL J 24 (iL (mx (mx (mx (mx ((nb 0) - (B 1)) ((B 0) - (nb 3))) ((nb 1) - (B 3))) ((B 2) - (nb 4))) ((nb 2) - (B 5))))) 25 (iL (mx (mx (mx (mx ((nb 0) - (B 0)) ((B 1) - (nb 3))) ((nb 1) - (B 2))) ((B 3) - (nb 4))) ((nb 2) - (B 4))))) a g ((B 4) - (nb 5)) ((B 5) - (nb 5)) (mx (mx (mx (mx ((nb 0) - (B 1)) ((B 0) - (nb 3))) ((nb 1) - (B 3))) ((B 2) - (nb 4))) ((nb 2) - (B 5))) (mx (mx (mx (mx ((nb 0) - (B 0)) ((B 1) - (nb 3))) ((nb 1) - (B 2))) ((B 3) - (nb 4))) ((nb 2) - (B 4))) rfl rfl (mxb (mxb (mxb (mxb (by omega) (by omega)) (by omega)) (by omega)) (by omega)) (mxb (mxb (mxb (mxb (by omega) (by omega)) (by omega)) (by omega)) (by omega)) (by omega) (by omega)) rfl ⟨wl_Mo_190, wi_Mo_greater, ws_Mo_greater, wc_Mo_greater, wn_Mo⟩ ⟨by decide, by decide, by decide +kernel⟩ ⟨Nat.le_of_ble_eq_true rfl, Nat.le_of_ble_eq_true rfl⟩ hl.1 rfl (rest := []) rfl (Nat.le_of_ble_eq_true rfl) ⟨Nat.zero_le _, Nat.zero_le _⟩ d_Mo_leaf_396 (fun I9 J9 a9 g9 H locs hp9 hM => ?_)
    cases hp9
    rw [updL_swap (i := 25) (j := 24) (by decide), updL_updL, updL_updL] at hM
    refine lv_aload_n hx hb d_Mo_leaf_399 rfl (lv_at hl 1 rfl) ?_
    refine lv_dup hx hb d_Mo_leaf_400 rfl ?_
    refine mo_getj hC hK hM 24 wf_Mo_179 rfl rfl (by decide) (v := iL (mx (mx (mx (mx (mx ((nb 0) - (B 1)) ((B 0) - (nb 3))) ((nb 1) - (B 3))) ((B 2) - (nb 4))) ((nb 2) - (B 5))) ((B 4) - (nb 5)))) (rfl) d_Mo_leaf_401 ?_
    refine lv_lconst (v := 1) hx hb d_Mo_leaf_404 (by decide) ?_
    refine lv_lsub hx hb d_Mo_leaf_405 ?_
    refine topl_eq (iL_sub (mx (mx (mx (mx (mx ((nb 0) - (B 1)) ((B 0) - (nb 3))) ((nb 1) - (B 3))) ((B 2) - (nb 4))) ((nb 2) - (B 5))) ((B 4) - (nb 5))) 1) ?_
    refine mo_putj hC hK hM 24 wf_Mo_179 rfl rfl (by decide) rfl (by decide +kernel) (x := iL ((mx (mx (mx (mx (mx ((nb 0) - (B 1)) ((B 0) - (nb 3))) ((nb 1) - (B 3))) ((B 2) - (nb 4))) ((nb 2) - (B 5))) ((B 4) - (nb 5))) - 1)) d_Mo_leaf_406 (fun H locs hM => ?_)
    rw [updL_swap (i := 25) (j := 24) (by decide), updL_updL] at hM
    refine lv_aload_n hx hb d_Mo_leaf_409 rfl (lv_at hl 1 rfl) ?_
    refine lv_dup hx hb d_Mo_leaf_410 rfl ?_
    refine mo_getj hC hK hM 25 wf_Mo_183 rfl rfl (by decide) (v := iL (mx (mx (mx (mx (mx ((nb 0) - (B 0)) ((B 1) - (nb 3))) ((nb 1) - (B 2))) ((B 3) - (nb 4))) ((nb 2) - (B 4))) ((B 5) - (nb 5)))) (rfl) d_Mo_leaf_411 ?_
    refine lv_lconst (v := 1) hx hb d_Mo_leaf_414 (by decide) ?_
    refine lv_lsub hx hb d_Mo_leaf_415 ?_
    refine topl_eq (iL_sub (mx (mx (mx (mx (mx ((nb 0) - (B 0)) ((B 1) - (nb 3))) ((nb 1) - (B 2))) ((B 3) - (nb 4))) ((nb 2) - (B 4))) ((B 5) - (nb 5))) 1) ?_
    refine mo_putj hC hK hM 25 wf_Mo_183 rfl rfl (by decide) rfl (by decide +kernel) (x := iL ((mx (mx (mx (mx (mx ((nb 0) - (B 0)) ((B 1) - (nb 3))) ((nb 1) - (B 2))) ((B 3) - (nb 4))) ((nb 2) - (B 4))) ((B 5) - (nb 5))) - 1)) d_Mo_leaf_416 (fun H locs hM => ?_)
    rw [updL_updL] at hM
    refine lv_goto (tgt := 528) hx hb d_Mo_leaf_419 (by decide) ?_
    refine hret _ _ _ _ _ _ _ _ d_Mo_leaf_528 hM ?_
    subst h1_1
    rfl
  have h1_2 : kd = 2 := by omega
  have ev : (nI kd).toInt = 2 := by rw [h1_2]; rfl
  refine lv_lookup (tgt := 422) hx hb d_Mo_leaf_31 (by decide) (by rw [ev]; all_goals rfl) (by decide) ?_
  refine lv_aload_n hx hb d_Mo_leaf_422 rfl (lv_at hl 1 rfl) ?_
  refine lv_aload_n hx hb d_Mo_leaf_423 rfl (lv_at hl 1 rfl) ?_
  refine mo_getr hC hK hM 16 wf_Mo_31 rfl (by decide) (by decide) d_Mo_leaf_424 ?_
  refine lv_iload_n hx hb d_Mo_leaf_427 rfl (lv_at hl 3 rfl) ?_
  refine mo_laldN hC hK hM 16 k (by decide) rfl (n := 64) rfl (by decide) (i := nI k) (rfl) (by omega) (v := iL (B 0)) (hB 0 (by decide)) d_Mo_leaf_428 ?_
  refine lv_aload_n hx hb d_Mo_leaf_429 rfl (lv_at hl 1 rfl) ?_
  refine mo_getr hC hK hM 17 wf_Mo_35 rfl (by decide) (by decide) d_Mo_leaf_430 ?_
  refine lv_iload_n hx hb d_Mo_leaf_433 rfl (lv_at hl 3 rfl) ?_
  refine mo_laldN hC hK hM 17 k (by decide) rfl (n := 64) rfl (by decide) (i := nI k) (rfl) (by omega) (v := iL (B 1)) (hB 1 (by decide)) d_Mo_leaf_434 ?_
  refine lv_aload_n hx hb d_Mo_leaf_435 rfl (lv_at hl 1 rfl) ?_
  refine mo_getr hC hK hM 4 wf_Mo_19 rfl (by decide) (by decide) d_Mo_leaf_436 ?_
  refine lv_iload_n hx hb d_Mo_leaf_439 rfl (lv_at hl 0 rfl) ?_
  refine mo_ialdN hC hK hM 4 (6 * ((64 * b) + k)) (by decide) rfl (n := 3072) rfl (by decide) (i := nI (6 * ((64 * b) + k))) (rfl) (by omega) (v := iI (nb 0)) (hnb 0 (by unfold nOf; (repeat' split) <;> omega)) d_Mo_leaf_440 ?_
  refine mo_callv (np := 3) hC hK hM (c_Mo_addProducts l D cT ad I (vp_updL (vp_updL J 24 0) 25 0) a g (B 0) (B 1) (nb 0) 0 0 rfl rfl (by omega) (by omega)) rfl ⟨wl_Mo_194, wi_Mo_addProducts, ws_Mo_addProducts, wc_Mo_addProducts, wn_Mo⟩ ⟨by decide, by decide, by decide +kernel⟩ ⟨Nat.le_of_ble_eq_true rfl, Nat.le_of_ble_eq_true rfl⟩ hl.1 rfl (rest := []) rfl (Nat.le_of_ble_eq_true rfl) ⟨Nat.zero_le _, Nat.zero_le _⟩ d_Mo_leaf_441 (fun I10 J10 a10 g10 H locs hp10 hM => ?_)
  cases hp10
  rw [updL_swap (i := 25) (j := 24) (by decide), updL_updL, updL_updL] at hM
  refine lv_aload_n hx hb d_Mo_leaf_444 rfl (lv_at hl 1 rfl) ?_
  refine lv_aload_n hx hb d_Mo_leaf_445 rfl (lv_at hl 1 rfl) ?_
  refine mo_getr hC hK hM 18 wf_Mo_38 rfl (by decide) (by decide) d_Mo_leaf_446 ?_
  refine lv_iload_n hx hb d_Mo_leaf_449 rfl (lv_at hl 3 rfl) ?_
  refine mo_laldN hC hK hM 18 k (by decide) rfl (n := 64) rfl (by decide) (i := nI k) (rfl) (by omega) (v := iL (B 2)) (hB 2 (by decide)) d_Mo_leaf_450 ?_
  refine lv_aload_n hx hb d_Mo_leaf_451 rfl (lv_at hl 1 rfl) ?_
  refine mo_getr hC hK hM 19 wf_Mo_41 rfl (by decide) (by decide) d_Mo_leaf_452 ?_
  refine lv_iload_n hx hb d_Mo_leaf_455 rfl (lv_at hl 3 rfl) ?_
  refine mo_laldN hC hK hM 19 k (by decide) rfl (n := 64) rfl (by decide) (i := nI k) (rfl) (by omega) (v := iL (B 3)) (hB 3 (by decide)) d_Mo_leaf_456 ?_
  refine lv_aload_n hx hb d_Mo_leaf_457 rfl (lv_at hl 1 rfl) ?_
  refine mo_getr hC hK hM 4 wf_Mo_19 rfl (by decide) (by decide) d_Mo_leaf_458 ?_
  refine lv_iload_n hx hb d_Mo_leaf_461 rfl (lv_at hl 0 rfl) ?_
  refine lv_iconst (v := 1) hx hb d_Mo_leaf_462 (by decide) ?_
  refine lv_iadd hx hb d_Mo_leaf_463 ?_
  refine topi_eq (nI_add (6 * ((64 * b) + k)) 1) ?_
  refine mo_ialdN hC hK hM 4 ((6 * ((64 * b) + k)) + 1) (by decide) rfl (n := 3072) rfl (by decide) (i := nI ((6 * ((64 * b) + k)) + 1)) (rfl) (by omega) (v := iI (nb 1)) (hnb 1 (by unfold nOf; (repeat' split) <;> omega)) d_Mo_leaf_464 ?_
  refine mo_callv (np := 3) hC hK hM (c_Mo_addProducts l D cT ad I (vp_updL (vp_updL J 24 (iL (0 + prL (B 0) (B 1) (nb 0)))) 25 (iL (0 + prH (B 0) (B 1) (nb 0)))) a g (B 2) (B 3) (nb 1) (0 + prL (B 0) (B 1) (nb 0)) (0 + prH (B 0) (B 1) (nb 0)) rfl rfl (by omega) (by omega)) rfl ⟨wl_Mo_194, wi_Mo_addProducts, ws_Mo_addProducts, wc_Mo_addProducts, wn_Mo⟩ ⟨by decide, by decide, by decide +kernel⟩ ⟨Nat.le_of_ble_eq_true rfl, Nat.le_of_ble_eq_true rfl⟩ hl.1 rfl (rest := []) rfl (Nat.le_of_ble_eq_true rfl) ⟨Nat.zero_le _, Nat.zero_le _⟩ d_Mo_leaf_465 (fun I11 J11 a11 g11 H locs hp11 hM => ?_)
  cases hp11
  rw [updL_swap (i := 25) (j := 24) (by decide), updL_updL, updL_updL] at hM
  refine lv_aload_n hx hb d_Mo_leaf_468 rfl (lv_at hl 1 rfl) ?_
  refine lv_aload_n hx hb d_Mo_leaf_469 rfl (lv_at hl 1 rfl) ?_
  refine mo_getr hC hK hM 20 wf_Mo_44 rfl (by decide) (by decide) d_Mo_leaf_470 ?_
  refine lv_iload_n hx hb d_Mo_leaf_473 rfl (lv_at hl 3 rfl) ?_
  refine mo_laldN hC hK hM 20 k (by decide) rfl (n := 64) rfl (by decide) (i := nI k) (rfl) (by omega) (v := iL (B 4)) (hB 4 (by decide)) d_Mo_leaf_474 ?_
  refine lv_aload_n hx hb d_Mo_leaf_475 rfl (lv_at hl 1 rfl) ?_
  refine mo_getr hC hK hM 21 wf_Mo_47 rfl (by decide) (by decide) d_Mo_leaf_476 ?_
  refine lv_iload_n hx hb d_Mo_leaf_479 rfl (lv_at hl 3 rfl) ?_
  refine mo_laldN hC hK hM 21 k (by decide) rfl (n := 64) rfl (by decide) (i := nI k) (rfl) (by omega) (v := iL (B 5)) (hB 5 (by decide)) d_Mo_leaf_480 ?_
  refine lv_aload_n hx hb d_Mo_leaf_481 rfl (lv_at hl 1 rfl) ?_
  refine mo_getr hC hK hM 4 wf_Mo_19 rfl (by decide) (by decide) d_Mo_leaf_482 ?_
  refine lv_iload_n hx hb d_Mo_leaf_485 rfl (lv_at hl 0 rfl) ?_
  refine lv_iconst (v := 2) hx hb d_Mo_leaf_486 (by decide) ?_
  refine lv_iadd hx hb d_Mo_leaf_487 ?_
  refine topi_eq (nI_add (6 * ((64 * b) + k)) 2) ?_
  refine mo_ialdN hC hK hM 4 ((6 * ((64 * b) + k)) + 2) (by decide) rfl (n := 3072) rfl (by decide) (i := nI ((6 * ((64 * b) + k)) + 2)) (rfl) (by omega) (v := iI (nb 2)) (hnb 2 (by unfold nOf; (repeat' split) <;> omega)) d_Mo_leaf_488 ?_
  refine mo_callv (np := 3) hC hK hM (c_Mo_addProducts l D cT ad I (vp_updL (vp_updL J 24 (iL ((0 + prL (B 0) (B 1) (nb 0)) + prL (B 2) (B 3) (nb 1)))) 25 (iL ((0 + prH (B 0) (B 1) (nb 0)) + prH (B 2) (B 3) (nb 1)))) a g (B 4) (B 5) (nb 2) ((0 + prL (B 0) (B 1) (nb 0)) + prL (B 2) (B 3) (nb 1)) ((0 + prH (B 0) (B 1) (nb 0)) + prH (B 2) (B 3) (nb 1)) rfl rfl (by omega) (by omega)) rfl ⟨wl_Mo_194, wi_Mo_addProducts, ws_Mo_addProducts, wc_Mo_addProducts, wn_Mo⟩ ⟨by decide, by decide, by decide +kernel⟩ ⟨Nat.le_of_ble_eq_true rfl, Nat.le_of_ble_eq_true rfl⟩ hl.1 rfl (rest := []) rfl (Nat.le_of_ble_eq_true rfl) ⟨Nat.zero_le _, Nat.zero_le _⟩ d_Mo_leaf_489 (fun I12 J12 a12 g12 H locs hp12 hM => ?_)
  cases hp12
  rw [updL_swap (i := 25) (j := 24) (by decide), updL_updL, updL_updL] at hM
  refine lv_aload_n hx hb d_Mo_leaf_492 rfl (lv_at hl 1 rfl) ?_
  refine lv_dup hx hb d_Mo_leaf_493 rfl ?_
  refine mo_getj hC hK hM 24 wf_Mo_179 rfl rfl (by decide) (v := iL (((0 + prL (B 0) (B 1) (nb 0)) + prL (B 2) (B 3) (nb 1)) + prL (B 4) (B 5) (nb 2))) (rfl) d_Mo_leaf_494 ?_
  refine lv_aload_n hx hb d_Mo_leaf_497 rfl (lv_at hl 1 rfl) ?_
  refine mo_getr hC hK hM 4 wf_Mo_19 rfl (by decide) (by decide) d_Mo_leaf_498 ?_
  refine lv_iload_n hx hb d_Mo_leaf_501 rfl (lv_at hl 0 rfl) ?_
  refine lv_iconst (v := 3) hx hb d_Mo_leaf_502 (by decide) ?_
  refine lv_iadd hx hb d_Mo_leaf_503 ?_
  refine topi_eq (nI_add (6 * ((64 * b) + k)) 3) ?_
  refine mo_ialdN hC hK hM 4 ((6 * ((64 * b) + k)) + 3) (by decide) rfl (n := 3072) rfl (by decide) (i := nI ((6 * ((64 * b) + k)) + 3)) (rfl) (by omega) (v := iI (nb 3)) (hnb 3 (by unfold nOf; (repeat' split) <;> omega)) d_Mo_leaf_504 ?_
  refine lv_i2l (v := iL (nb 3)) hx hb d_Mo_leaf_505 (iI_l (z := nb 3) (by omega) (by omega)) ?_
  refine lv_lsub hx hb d_Mo_leaf_506 ?_
  refine topl_eq (iL_sub (((0 + prL (B 0) (B 1) (nb 0)) + prL (B 2) (B 3) (nb 1)) + prL (B 4) (B 5) (nb 2)) (nb 3)) ?_
  refine mo_putj hC hK hM 24 wf_Mo_179 rfl rfl (by decide) rfl (by decide +kernel) (x := iL ((((0 + prL (B 0) (B 1) (nb 0)) + prL (B 2) (B 3) (nb 1)) + prL (B 4) (B 5) (nb 2)) - (nb 3))) d_Mo_leaf_507 (fun H locs hM => ?_)
  rw [updL_swap (i := 25) (j := 24) (by decide), updL_updL] at hM
  refine lv_aload_n hx hb d_Mo_leaf_510 rfl (lv_at hl 1 rfl) ?_
  refine lv_dup hx hb d_Mo_leaf_511 rfl ?_
  refine mo_getj hC hK hM 25 wf_Mo_183 rfl rfl (by decide) (v := iL (((0 + prH (B 0) (B 1) (nb 0)) + prH (B 2) (B 3) (nb 1)) + prH (B 4) (B 5) (nb 2))) (rfl) d_Mo_leaf_512 ?_
  refine lv_aload_n hx hb d_Mo_leaf_515 rfl (lv_at hl 1 rfl) ?_
  refine mo_getr hC hK hM 4 wf_Mo_19 rfl (by decide) (by decide) d_Mo_leaf_516 ?_
  refine lv_iload_n hx hb d_Mo_leaf_519 rfl (lv_at hl 0 rfl) ?_
  refine lv_iconst (v := 3) hx hb d_Mo_leaf_520 (by decide) ?_
  refine lv_iadd hx hb d_Mo_leaf_521 ?_
  refine topi_eq (nI_add (6 * ((64 * b) + k)) 3) ?_
  refine mo_ialdN hC hK hM 4 ((6 * ((64 * b) + k)) + 3) (by decide) rfl (n := 3072) rfl (by decide) (i := nI ((6 * ((64 * b) + k)) + 3)) (rfl) (by omega) (v := iI (nb 3)) (hnb 3 (by unfold nOf; (repeat' split) <;> omega)) d_Mo_leaf_522 ?_
  refine lv_i2l (v := iL (nb 3)) hx hb d_Mo_leaf_523 (iI_l (z := nb 3) (by omega) (by omega)) ?_
  refine lv_lsub hx hb d_Mo_leaf_524 ?_
  refine topl_eq (iL_sub (((0 + prH (B 0) (B 1) (nb 0)) + prH (B 2) (B 3) (nb 1)) + prH (B 4) (B 5) (nb 2)) (nb 3)) ?_
  refine mo_putj hC hK hM 25 wf_Mo_183 rfl rfl (by decide) rfl (by decide +kernel) (x := iL ((((0 + prH (B 0) (B 1) (nb 0)) + prH (B 2) (B 3) (nb 1)) + prH (B 4) (B 5) (nb 2)) - (nb 3))) d_Mo_leaf_525 (fun H locs hM => ?_)
  rw [updL_updL] at hM
  refine hret _ _ _ _ _ _ _ _ d_Mo_leaf_528 hM ?_
  subst h1_2
  rfl
