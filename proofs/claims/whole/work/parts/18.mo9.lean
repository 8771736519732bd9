/-! the reference: both, ray, scan -/
theorem iI_tx (x : Int32) : (iI x.toInt).toInt = x.toInt := by rw [← iI_of]
theorem ex_iI (x : Int32) : ∃ X : Int, x = iI X ∧ x.toInt = X ∧ -2147483648 ≤ X ∧ X < 2147483648 := ⟨_, iI_of x, rfl, x_rng x⟩
theorem b00 (a b : Bool) : (if (a && b) = true then 1 else 0) = (if a = true then (if b = true then 1 else 0) else 0) := by cases a <;> cases b <;> rfl
theorem b01 (a b : Bool) : (if (a && !b) = true then 1 else 0) = (if a = true then (if b = true then 0 else 1) else 0) := by cases a <;> cases b <;> rfl
theorem b10 (a b : Bool) : (if (!a && b) = true then 1 else 0) = (if a = true then 0 else (if b = true then 1 else 0)) := by cases a <;> cases b <;> rfl
theorem ray_b {k : Nat} {U : Int} (hU : U ≠ 0) : (k : Int) ≤ (k : Int) * U ∨ (k : Int) * U ≤ -(k : Int) := by
  rcases (show 1 ≤ U ∨ U ≤ -1 by omega) with h | h
  · left
    have := Int.mul_le_mul_of_nonneg_left h (show 0 ≤ (k : Int) by omega)
    omega
  · right
    have := Int.mul_le_mul_of_nonneg_left h (show 0 ≤ (k : Int) by omega)
    omega
def inS (x y z u v w : Int) (k : Nat) : Prop := -7 ≤ (x + k * u) ∧ (x + k * u) ≤ 7 ∧ -7 ≤ (y + k * v) ∧ (y + k * v) ≤ 7 ∧ -7 ≤ (z + k * w) ∧ (z + k * w) ≤ 7
def RY (t : TX) (x y z u v w : Int) (r : Int32) : Prop := ∃ k : Nat, k ≤ 15 ∧ (∀ j, j < k → inS x y z u v w j ∧ ¬ vl t (x + j * u) (y + j * v) (z + j * w) < 0) ∧ ((inS x y z u v w k ∧ vl t (x + k * u) (y + k * v) (z + k * w) < 0 ∧ r = nI k) ∨ (¬ inS x y z u v w k ∧ r = -4))
/-- n more points of a sheet's cells c, from point i on, s found so far -/
def scn (t : TX) (c : Nat → Int32) (len f : Int) : Nat → Nat → Nat → Int32
  | 0, _, s => nI s
  | m + 1, i, s => if 0 ≤ f + (↑(3 * i) : Int) ∧ f + (↑(3 * i) : Int) ≤ len - 3 then (if -7 ≤ ((c (f + (↑(3 * i) : Int)).toNat).toInt) ∧ ((c (f + (↑(3 * i) : Int)).toNat).toInt) ≤ 7 ∧ -7 ≤ ((c ((f + (↑(3 * i) : Int)).toNat + 1)).toInt) ∧ ((c ((f + (↑(3 * i) : Int)).toNat + 1)).toInt) ≤ 7 ∧ -7 ≤ ((c ((f + (↑(3 * i) : Int)).toNat + 2)).toInt) ∧ ((c ((f + (↑(3 * i) : Int)).toNat + 2)).toInt) ≤ 7 then scn t c len f m (i + 1) (s + (if vl t (c (f + (↑(3 * i) : Int)).toNat).toInt (c ((f + (↑(3 * i) : Int)).toNat + 1)).toInt (c ((f + (↑(3 * i) : Int)).toNat + 2)).toInt < 0 then 1 else 0)) else iI ((-20) - (↑i : Int))) else -12
theorem scn_out {t : TX} {c : Nat → Int32} {len f : Int} {n i s : Nat} (hi : i < n) (h : ¬ (0 ≤ f + (↑(3 * i) : Int) ∧ f + (↑(3 * i) : Int) ≤ len - 3)) : scn t c len f (n - i) i s = -12 := by
  rw [show n - i = (n - (i + 1)) + 1 by omega]
  exact if_neg h
theorem scn_np {t : TX} {c : Nat → Int32} {len f : Int} {n i s : Nat} (hi : i < n) (h : 0 ≤ f + (↑(3 * i) : Int) ∧ f + (↑(3 * i) : Int) ≤ len - 3) (h2 : ¬ (-7 ≤ ((c (f + (↑(3 * i) : Int)).toNat).toInt) ∧ ((c (f + (↑(3 * i) : Int)).toNat).toInt) ≤ 7 ∧ -7 ≤ ((c ((f + (↑(3 * i) : Int)).toNat + 1)).toInt) ∧ ((c ((f + (↑(3 * i) : Int)).toNat + 1)).toInt) ≤ 7 ∧ -7 ≤ ((c ((f + (↑(3 * i) : Int)).toNat + 2)).toInt) ∧ ((c ((f + (↑(3 * i) : Int)).toNat + 2)).toInt) ≤ 7)) : scn t c len f (n - i) i s = iI ((-20) - (↑i : Int)) := by
  rw [show n - i = (n - (i + 1)) + 1 by omega]
  exact (if_pos h).trans (if_neg h2)
theorem scn_go {t : TX} {c : Nat → Int32} {len f : Int} {n i s : Nat} (hi : i < n) (h : 0 ≤ f + (↑(3 * i) : Int) ∧ f + (↑(3 * i) : Int) ≤ len - 3) (h2 : -7 ≤ ((c (f + (↑(3 * i) : Int)).toNat).toInt) ∧ ((c (f + (↑(3 * i) : Int)).toNat).toInt) ≤ 7 ∧ -7 ≤ ((c ((f + (↑(3 * i) : Int)).toNat + 1)).toInt) ∧ ((c ((f + (↑(3 * i) : Int)).toNat + 1)).toInt) ≤ 7 ∧ -7 ≤ ((c ((f + (↑(3 * i) : Int)).toNat + 2)).toInt) ∧ ((c ((f + (↑(3 * i) : Int)).toNat + 2)).toInt) ≤ 7) : scn t c len f (n - i) i s = scn t c len f (n - (i + 1)) (i + 1) (s + (if vl t (c (f + (↑(3 * i) : Int)).toNat).toInt (c ((f + (↑(3 * i) : Int)).toNat + 1)).toInt (c ((f + (↑(3 * i) : Int)).toNat + 2)).toInt < 0 then 1 else 0)) := by
  rw [show n - i = (n - (i + 1)) + 1 by omega]
  exact (if_pos h).trans (if_pos h2)
theorem kmul {k : Nat} {U : Int} (hk : k ≤ 15) (h : -3 ≤ U ∧ U ≤ 3) : -45 ≤ (k : Int) * U ∧ (k : Int) * U ≤ 45 := by
  have p1 := Int.mul_nonneg (show 0 ≤ (15 : Int) - k by omega) (show 0 ≤ 3 - U by omega)
  have p2 := Int.mul_nonneg (show 0 ≤ (15 : Int) + k by omega) (show 0 ≤ 3 + U by omega)
  have p3 := Int.mul_nonneg (show 0 ≤ (15 : Int) - k by omega) (show 0 ≤ 3 + U by omega)
  have p4 := Int.mul_nonneg (show 0 ≤ (15 : Int) + k by omega) (show 0 ≤ 3 - U by omega)
  simp only [Int.sub_mul, Int.mul_sub, Int.add_mul, Int.mul_add] at p1 p2 p3 p4
  omega
set_option maxHeartbeats 400000 in
set_option maxRecDepth 100000 in
theorem c_Mo_both (l : Launch) (D : va_G) (cT : Nat → ClassId) (ad : Nat → Nat) (I : Nat → Int32) (J : Nat → Int64) (a : Nat → Nat → Int32) (g : Nat → Nat → Int64) (b1 : Int32) (b2 : Int32) (what : Int32) (nbo : Nat) (T : Nat → TX) (hnb : I 0 = nI nbo) (h8 : nbo ≤ 8) (hT : ∀ q, q < nbo → BDT a q (T q)) : MMi l D cT ad y_Mo_both b_Mo_both 8 (some .int) 6 169 [.int b1, .int b2, .int what] I J a g (fun r u => SP I a u ∧ r = if (0 ≤ b1.toInt ∧ b1.toInt < (nbo : Int)) ∧ (0 ≤ b2.toInt ∧ b2.toInt < (nbo : Int)) ∧ 0 ≤ what.toInt ∧ what.toInt ≤ 3 then (if what.toInt = 0 then nI (cn (fun k => vw (T b1.toInt.toNat) k && vw (T b2.toInt.toNat) k) 3375) else if what.toInt = 1 then nI (cn (fun k => vw (T b1.toInt.toNat) k && !vw (T b2.toInt.toNat) k) 3375) else if what.toInt = 2 then nI (cn (fun k => !vw (T b1.toInt.toNat) k && vw (T b2.toInt.toNat) k) 3375) else if cn (fun k => !vw (T b1.toInt.toNat) k && vw (T b2.toInt.toNat) k) 3375 = 0 then 1 else 0) else -1) := by
  refine mo_enti (by decide) rfl (Nat.le_of_ble_eq_true rfl) ?_
  intro p e s m args below meth c Q hC hK hM hret ls hl
  have hx := hC.1
  have hb := hC.2.1
  replace hl : lv_has ls 8 [(0, .ref (ad 46)), (1, .int b1), (2, .int b2), (3, .int what)] := hl
  refine lv_aload_n hx hb d_Mo_both_0 rfl (lv_at hl 0 rfl) ?_
  refine lv_iload_n hx hb d_Mo_both_1 rfl (lv_at hl 1 rfl) ?_
  refine mo_callr (np := 1) hC hK hM (c_Mo_is l D cT ad I J a g b1 nbo hnb h8) rfl ⟨wl_Mo_204, wi_Mo_is, ws_Mo_is, wc_Mo_is, wn_Mo⟩ ⟨by decide, by decide, by decide +kernel⟩ ⟨Nat.le_of_ble_eq_true rfl, Nat.le_of_ble_eq_true rfl⟩ hl.1 rfl (rest := []) rfl (Nat.le_of_ble_eq_true rfl) ⟨Nat.zero_le _, Nat.zero_le _⟩ d_Mo_both_2 (fun rr hrr => ?_)
  subst hrr
  refine bz_eq (tgt := 28) hx hb d_Mo_both_5 (by decide) (fun h1 => ?_) (fun h1 => ?_)
  · skip
    refine lv_iconst (v := (-1)) hx hb d_Mo_both_28 (by decide) ?_
    exact hret _ _ _ _ _ _ _ _ _ d_Mo_both_29 hM (⟨SP_a (fun _ _ => rfl), by rw [if_neg (by omega)]⟩)
  · skip
    refine lv_aload_n hx hb d_Mo_both_8 rfl (lv_at hl 0 rfl) ?_
    refine lv_iload_n hx hb d_Mo_both_9 rfl (lv_at hl 2 rfl) ?_
    refine mo_callr (np := 1) hC hK hM (c_Mo_is l D cT ad I J a g b2 nbo hnb h8) rfl ⟨wl_Mo_204, wi_Mo_is, ws_Mo_is, wc_Mo_is, wn_Mo⟩ ⟨by decide, by decide, by decide +kernel⟩ ⟨Nat.le_of_ble_eq_true rfl, Nat.le_of_ble_eq_true rfl⟩ hl.1 rfl (rest := []) rfl (Nat.le_of_ble_eq_true rfl) ⟨Nat.zero_le _, Nat.zero_le _⟩ d_Mo_both_10 (fun rr hrr => ?_)
    subst hrr
    refine bz_eq (tgt := 28) hx hb d_Mo_both_13 (by decide) (fun h2 => ?_) (fun h2 => ?_)
    · skip
      refine lv_iconst (v := (-1)) hx hb d_Mo_both_28 (by decide) ?_
      exact hret _ _ _ _ _ _ _ _ _ d_Mo_both_29 hM (⟨SP_a (fun _ _ => rfl), by rw [if_neg (by omega)]⟩)
    · skip
      refine lv_iload_n hx hb d_Mo_both_16 rfl (lv_at hl 3 rfl) ?_
      refine lv_i2l (v := iL what.toInt) hx hb d_Mo_both_17 (x_l _) ?_
      refine lv_lconst (v := 0) hx hb d_Mo_both_18 (by decide) ?_
      refine lv_ldc2 (v := 3) hx hb hC.2.2.2.1 (hC.2.2.2.2 _ wx_Mo_266) d_Mo_both_19 ?_
      refine st_calli (np := 3) hC (c_Mo_in l (iL (what.toInt)) 0 3 what.toInt 0 3 (iL_tx what) rfl rfl) ⟨wl_Mo_91, wt_Mo_in, wc_Mo_in, wn_Mo⟩ ⟨by decide, by decide, by decide +kernel⟩ ⟨Nat.le_of_ble_eq_true rfl, Nat.le_of_ble_eq_true rfl⟩ hl.1 rfl (rest := []) rfl (Nat.le_of_ble_eq_true rfl) ⟨Nat.zero_le _, Nat.zero_le _⟩ d_Mo_both_22 (fun rr hrr => ?_)
      subst hrr
      refine bz_ne (tgt := 30) hx hb d_Mo_both_25 (by decide) (fun h3 => ?_) (fun h3 => ?_)
      · skip
        obtain ⟨q1, hq1, rfl, h1t⟩ := ex_nI (n := 7) (x := b1) (by omega) (by omega)
        obtain ⟨q2, hq2, rfl, h2t⟩ := ex_nI (n := 7) (x := b2) (by omega) (by omega)
        refine lv_aload_n hx hb d_Mo_both_30 rfl (lv_at hl 0 rfl) ?_
        refine lv_iload_n hx hb d_Mo_both_31 rfl (lv_at hl 1 rfl) ?_
        refine mo_callv (np := 1) hC hK hM (c_Mo_ask l D cT ad I J a g q1 (T q1) (by omega) (BDT_of (hT _ (by omega)) rfl rfl rfl rfl)) rfl ⟨wl_Mo_263, wi_Mo_ask, ws_Mo_ask, wc_Mo_ask, wn_Mo⟩ ⟨by decide, by decide, by decide +kernel⟩ ⟨Nat.le_of_ble_eq_true rfl, Nat.le_of_ble_eq_true rfl⟩ hl.1 rfl (rest := []) rfl (Nat.le_of_ble_eq_true rfl) ⟨Nat.zero_le _, Nat.zero_le _⟩ d_Mo_both_32 (fun I4 J4 a4 g4 H locs hp4 hM => ?_)
        obtain ⟨hI_p4, hA_p4⟩ := hp4
        replace hI_p4 : I4 = I := hI_p4
        replace hA_p4 : a4 = va_up a 33 (pt (a 33) (wi (T q1)) 0 3375) := hA_p4
        rw [hI_p4, hA_p4] at hM
        refine lv_iconst (v := 0) hx hb d_Mo_both_35 (by decide) ?_
        refine lv_istore (lv' := [(4, .int 0), (0, .ref (ad 46)), (1, .int (nI q1)), (2, .int (nI q2)), (3, .int what)]) hx hb d_Mo_both_36 hl (by decide) rfl (fun ls hl => ?_)
        have hL38 : ∀ (nn : Nat) (k : Nat) (H : Heap) (locs : List Loc) (ls : Array Slot), 3375 - k < nn → (k ≤ 3375) → MO D cT ad I J4 (va_up (va_up a 33 (pt (a 33) (wi (T q1)) 0 3375)) 34 (pt (a 34) (wi (T q1)) 0 k)) g4 s.heap H locs → lv_has ls 8 [(0, .ref (ad 46)), (2, .int (nI q2)), (3, .int what), (4, .int (nI k))] → W p l e (rmOf 6 169) s m args below meth c H locs 0 0 Q (F0 m 38 ls []) := by
          intro nn
          induction nn with
          | zero =>
            intro k H locs ls hmeas38 hk hM hl
            exact absurd hmeas38 (Nat.not_lt_zero _)
          | succ nn ih38 =>
            intro k H locs ls hmeas38 hk hM hl
            refine lv_iload hx hb d_Mo_both_38 (lv_at hl 3 rfl) ?_
            refine lv_sipush (v := 3375) hx hb d_Mo_both_40 (by decide) ?_
            refine nc_ge hx hb k 3375 (by omega) (by omega) d_Mo_both_43 (tgt := 66) (by decide) (fun h5 => ?_) (fun h5 => ?_)
            · skip
              obtain rfl : k = 3375 := by omega
              refine lv_aload_n hx hb d_Mo_both_66 rfl (lv_at hl 0 rfl) ?_
              refine lv_iload_n hx hb d_Mo_both_67 rfl (lv_at hl 1 rfl) ?_
              refine mo_callv (np := 1) hC hK hM (c_Mo_ask l D cT ad I J4 (va_up (va_up a 33 (pt (a 33) (wi (T q1)) 0 3375)) 34 (pt (a 34) (wi (T q1)) 0 3375)) g4 q2 (T q2) (by omega) (BDT_of (hT _ (by omega)) rfl rfl rfl rfl)) rfl ⟨wl_Mo_263, wi_Mo_ask, ws_Mo_ask, wc_Mo_ask, wn_Mo⟩ ⟨by decide, by decide, by decide +kernel⟩ ⟨Nat.le_of_ble_eq_true rfl, Nat.le_of_ble_eq_true rfl⟩ hl.1 rfl (rest := []) rfl (Nat.le_of_ble_eq_true rfl) ⟨Nat.zero_le _, Nat.zero_le _⟩ d_Mo_both_68 (fun I6 J6 a6 g6 H locs hp6 hM => ?_)
              obtain ⟨hI_p6, hA_p6⟩ := hp6
              replace hI_p6 : I6 = I := hI_p6
              replace hA_p6 : a6 = va_up (va_up (va_up a 33 (pt (a 33) (wi (T q1)) 0 3375)) 34 (pt (a 34) (wi (T q1)) 0 3375)) 33 (pt (pt (a 33) (wi (T q1)) 0 3375) (wi (T q2)) 0 3375) := hA_p6
              rw [hI_p6, hA_p6] at hM
              refine lv_iconst (v := 0) hx hb d_Mo_both_71 (by decide) ?_
              refine lv_istore (lv' := [(4, .int 0), (0, .ref (ad 46)), (2, .int (nI q2)), (3, .int what)]) hx hb d_Mo_both_72 hl (by decide) rfl (fun ls hl => ?_)
              refine lv_iconst (v := 0) hx hb d_Mo_both_74 (by decide) ?_
              refine lv_istore (lv' := [(5, .int 0), (4, .int 0), (0, .ref (ad 46)), (2, .int (nI q2)), (3, .int what)]) hx hb d_Mo_both_75 hl (by decide) rfl (fun ls hl => ?_)
              refine lv_iconst (v := 0) hx hb d_Mo_both_77 (by decide) ?_
              refine lv_istore (lv' := [(6, .int 0), (5, .int 0), (4, .int 0), (0, .ref (ad 46)), (2, .int (nI q2)), (3, .int what)]) hx hb d_Mo_both_78 hl (by decide) rfl (fun ls hl => ?_)
              refine lv_iconst (v := 0) hx hb d_Mo_both_80 (by decide) ?_
              refine lv_istore (lv' := [(7, .int 0), (6, .int 0), (5, .int 0), (4, .int 0), (0, .ref (ad 46)), (2, .int (nI q2)), (3, .int what)]) hx hb d_Mo_both_81 hl (by decide) rfl (fun ls hl => ?_)
              have hL83 : ∀ (nn : Nat) (k : Nat) (H : Heap) (locs : List Loc) (ls : Array Slot), 3375 - k < nn → (k ≤ 3375) → MO D cT ad I J6 (va_up (va_up (va_up a 33 (pt (a 33) (wi (T q1)) 0 3375)) 34 (pt (a 34) (wi (T q1)) 0 3375)) 33 (pt (pt (a 33) (wi (T q1)) 0 3375) (wi (T q2)) 0 3375)) g6 s.heap H locs → lv_has ls 8 [(0, .ref (ad 46)), (3, .int what), (4, .int (nI (cn (fun k => vw (T q1) k && vw (T q2) k) k))), (5, .int (nI (cn (fun k => vw (T q1) k && !vw (T q2) k) k))), (6, .int (nI (cn (fun k => !vw (T q1) k && vw (T q2) k) k))), (7, .int (nI k))] → W p l e (rmOf 6 169) s m args below meth c H locs 0 0 Q (F0 m 83 ls []) := by
                intro nn
                induction nn with
                | zero =>
                  intro k H locs ls hmeas83 hk hM hl
                  exact absurd hmeas83 (Nat.not_lt_zero _)
                | succ nn ih83 =>
                  intro k H locs ls hmeas83 hk hM hl
                  refine lv_iload hx hb d_Mo_both_83 (lv_at hl 5 rfl) ?_
                  refine lv_sipush (v := 3375) hx hb d_Mo_both_85 (by decide) ?_
                  refine nc_ge hx hb k 3375 (by omega) (by omega) d_Mo_both_88 (tgt := 187) (by decide) (fun h7 => ?_) (fun h7 => ?_)
                  · skip
                    refine lv_iload_n hx hb d_Mo_both_187 rfl (lv_at hl 1 rfl) ?_
                    refine yz_ne hx hb what.toInt (rfl) d_Mo_both_188 (tgt := 196) (by decide) (fun h8 => ?_) (fun h8 => ?_)
                    · skip
                      refine lv_iload_n hx hb d_Mo_both_196 rfl (lv_at hl 1 rfl) ?_
                      refine lv_iconst (v := 1) hx hb d_Mo_both_197 (by decide) ?_
                      refine yc_ne hx hb what.toInt 1 (rfl) (rfl) d_Mo_both_198 (tgt := 206) (by decide) (fun h9 => ?_) (fun h9 => ?_)
                      · skip
                        refine lv_iload_n hx hb d_Mo_both_206 rfl (lv_at hl 1 rfl) ?_
                        refine lv_iconst (v := 2) hx hb d_Mo_both_207 (by decide) ?_
                        refine yc_ne hx hb what.toInt 2 (rfl) (rfl) d_Mo_both_208 (tgt := 216) (by decide) (fun h10 => ?_) (fun h10 => ?_)
                        · skip
                          refine lv_iload hx hb d_Mo_both_216 (lv_at hl 4 rfl) ?_
                          refine nz_ne hx hb (cn (fun k => !vw (T q1) k && vw (T q2) k) k) (by have := cn_le (fun k => !vw (T q1) k && vw (T q2) k) k; omega) d_Mo_both_218 (tgt := 225) (by decide) (fun h11 => ?_) (fun h11 => ?_)
                          · skip
                            refine lv_iconst (v := 0) hx hb d_Mo_both_225 (by decide) ?_
                            refine hret _ _ _ _ _ _ _ _ _ d_Mo_both_226 hM ?_
                            obtain rfl : k = 3375 := by omega
                            refine ⟨SP_a (fun k hk => (va_up_ne _ _ (by omega)).trans ((va_up_ne _ _ (by omega)).trans (va_up_ne _ _ (by omega)))), ?_⟩
                            rw [if_pos (by omega), h1t, h2t]
                            simp only [Int.toNat_natCast, if_neg h8, if_neg h9, if_neg h10, if_neg h11]
                          · skip
                            refine lv_iconst (v := 1) hx hb d_Mo_both_221 (by decide) ?_
                            refine lv_goto (tgt := 226) hx hb d_Mo_both_222 (by decide) ?_
                            refine hret _ _ _ _ _ _ _ _ _ d_Mo_both_226 hM ?_
                            obtain rfl : k = 3375 := by omega
                            refine ⟨SP_a (fun k hk => (va_up_ne _ _ (by omega)).trans ((va_up_ne _ _ (by omega)).trans (va_up_ne _ _ (by omega)))), ?_⟩
                            rw [if_pos (by omega), h1t, h2t]
                            simp only [Int.toNat_natCast, if_neg h8, if_neg h9, if_neg h10, if_pos h11]
                        · skip
                          refine lv_iload hx hb d_Mo_both_211 (lv_at hl 4 rfl) ?_
                          refine lv_goto (tgt := 226) hx hb d_Mo_both_213 (by decide) ?_
                          refine hret _ _ _ _ _ _ _ _ _ d_Mo_both_226 hM ?_
                          obtain rfl : k = 3375 := by omega
                          refine ⟨SP_a (fun k hk => (va_up_ne _ _ (by omega)).trans ((va_up_ne _ _ (by omega)).trans (va_up_ne _ _ (by omega)))), ?_⟩
                          rw [if_pos (by omega), h1t, h2t]
                          simp only [Int.toNat_natCast, if_neg h8, if_neg h9, if_pos h10]
                      · skip
                        refine lv_iload hx hb d_Mo_both_201 (lv_at hl 3 rfl) ?_
                        refine lv_goto (tgt := 226) hx hb d_Mo_both_203 (by decide) ?_
                        refine hret _ _ _ _ _ _ _ _ _ d_Mo_both_226 hM ?_
                        obtain rfl : k = 3375 := by omega
                        refine ⟨SP_a (fun k hk => (va_up_ne _ _ (by omega)).trans ((va_up_ne _ _ (by omega)).trans (va_up_ne _ _ (by omega)))), ?_⟩
                        rw [if_pos (by omega), h1t, h2t]
                        simp only [Int.toNat_natCast, if_neg h8, if_pos h9]
                    · skip
                      refine lv_iload hx hb d_Mo_both_191 (lv_at hl 2 rfl) ?_
                      refine lv_goto (tgt := 226) hx hb d_Mo_both_193 (by decide) ?_
                      refine hret _ _ _ _ _ _ _ _ _ d_Mo_both_226 hM ?_
                      obtain rfl : k = 3375 := by omega
                      refine ⟨SP_a (fun k hk => (va_up_ne _ _ (by omega)).trans ((va_up_ne _ _ (by omega)).trans (va_up_ne _ _ (by omega)))), ?_⟩
                      rw [if_pos (by omega), h1t, h2t]
                      simp only [Int.toNat_natCast, if_pos h8]
                  · skip
                    refine lv_iload hx hb d_Mo_both_91 (lv_at hl 2 rfl) ?_
                    refine lv_aload_n hx hb d_Mo_both_93 rfl (lv_at hl 0 rfl) ?_
                    refine mo_getr hC hK hM 34 wf_Mo_63 rfl (by decide) (by decide) d_Mo_both_94 ?_
                    refine lv_iload hx hb d_Mo_both_97 (lv_at hl 5 rfl) ?_
                    refine mo_zaldN hC hK hM 34 k (by decide) rfl (n := 3375) rfl (by decide) (i := nI k) (rfl) (by omega) (v := bI (vw (T q1) k = true)) (ask_at _ (by omega)) d_Mo_both_99 ?_
                    have hJ12 : ∀ (H : Heap) (locs : List Loc) (ls : Array Slot), MO D cT ad I J6 (va_up (va_up (va_up a 33 (pt (a 33) (wi (T q1)) 0 3375)) 34 (pt (a 34) (wi (T q1)) 0 3375)) 33 (pt (pt (a 33) (wi (T q1)) 0 3375) (wi (T q2)) 0 3375)) g6 s.heap H locs → lv_has ls 8 [(0, .ref (ad 46)), (3, .int what), (4, .int (nI (cn (fun k => vw (T q1) k && vw (T q2) k) k))), (5, .int (nI (cn (fun k => vw (T q1) k && !vw (T q2) k) k))), (6, .int (nI (cn (fun k => !vw (T q1) k && vw (T q2) k) k))), (7, .int (nI k))] → W p l e (rmOf 6 169) s m args below meth c H locs 0 0 Q (F0 m 118 ls [.int (nI (if vw (T q1) k = true then if vw (T q2) k = true then 1 else 0 else 0)), .int (nI (cn (fun k => vw (T q1) k && vw (T q2) k) k))]) := ?_
                    · skip
                      refine bz_eq (tgt := 117) hx hb d_Mo_both_100 (by decide) (fun h13 => ?_) (fun h13 => ?_)
                      · skip
                        refine lv_iconst (v := 0) hx hb d_Mo_both_117 (by decide) ?_
                        refine topi_eq (show (0 : Int32) = nI (if vw (T q1) k = true then if vw (T q2) k = true then 1 else 0 else 0) by first | rfl | exact (bI_t (by assumption)).symm | exact (bI_f (by assumption)).symm | exact (bI_f (fun z => z (by assumption))).symm | (rw [if_neg h13]; done) | (rw [if_neg h13]; rfl) | (simp only [if_neg h13]; done) | (simp only [if_neg h13]; rfl)) ?_
                        exact hJ12 _ _ _ (by first | exact hM | (simp only [if_neg h13]; exact hM)) (by first | exact lv_sub hl [0, 1, 2, 3, 4, 5] rfl | (simp only [if_neg h13]; exact lv_sub hl [0, 1, 2, 3, 4, 5] rfl))
                      · skip
                        refine lv_aload_n hx hb d_Mo_both_103 rfl (lv_at hl 0 rfl) ?_
                        refine mo_getr hC hK hM 33 wf_Mo_59 rfl (by decide) (by decide) d_Mo_both_104 ?_
                        refine lv_iload hx hb d_Mo_both_107 (lv_at hl 5 rfl) ?_
                        refine mo_zaldN hC hK hM 33 k (by decide) rfl (n := 3375) rfl (by decide) (i := nI k) (rfl) (by omega) (v := bI (vw (T q2) k = true)) (ask_at _ (by omega)) d_Mo_both_109 ?_
                        refine bz_eq (tgt := 117) hx hb d_Mo_both_110 (by decide) (fun h14 => ?_) (fun h14 => ?_)
                        · skip
                          refine lv_iconst (v := 0) hx hb d_Mo_both_117 (by decide) ?_
                          refine topi_eq (show (0 : Int32) = nI (if vw (T q1) k = true then if vw (T q2) k = true then 1 else 0 else 0) by first | rfl | exact (bI_t (by assumption)).symm | exact (bI_f (by assumption)).symm | exact (bI_f (fun z => z (by assumption))).symm | (rw [if_pos h13, if_neg h14]; done) | (rw [if_pos h13, if_neg h14]; rfl) | (simp only [if_pos h13, if_neg h14]; done) | (simp only [if_pos h13, if_neg h14]; rfl)) ?_
                          exact hJ12 _ _ _ (by first | exact hM | (simp only [if_pos h13, if_neg h14]; exact hM)) (by first | exact lv_sub hl [0, 1, 2, 3, 4, 5] rfl | (simp only [if_pos h13, if_neg h14]; exact lv_sub hl [0, 1, 2, 3, 4, 5] rfl))
                        · skip
                          refine lv_iconst (v := 1) hx hb d_Mo_both_113 (by decide) ?_
                          refine lv_goto (tgt := 118) hx hb d_Mo_both_114 (by decide) ?_
                          refine topi_eq (show (1 : Int32) = nI (if vw (T q1) k = true then if vw (T q2) k = true then 1 else 0 else 0) by first | rfl | exact (bI_t (by assumption)).symm | exact (bI_f (by assumption)).symm | exact (bI_f (fun z => z (by assumption))).symm | (rw [if_pos h13, if_pos h14]; done) | (rw [if_pos h13, if_pos h14]; rfl) | (simp only [if_pos h13, if_pos h14]; done) | (simp only [if_pos h13, if_pos h14]; rfl)) ?_
                          exact hJ12 _ _ _ (by first | exact hM | (simp only [if_pos h13, if_pos h14]; exact hM)) (by first | exact lv_sub hl [0, 1, 2, 3, 4, 5] rfl | (simp only [if_pos h13, if_pos h14]; exact lv_sub hl [0, 1, 2, 3, 4, 5] rfl))
                    intro H locs ls hM hl
                    refine lv_iadd hx hb d_Mo_both_118 ?_
                    refine topi_eq (nI_add (cn (fun k => vw (T q1) k && vw (T q2) k) k) (if vw (T q1) k = true then if vw (T q2) k = true then 1 else 0 else 0)) ?_
                    refine lv_istore (lv' := [(4, .int (nI ((cn (fun k => vw (T q1) k && vw (T q2) k) k) + (if vw (T q1) k = true then if vw (T q2) k = true then 1 else 0 else 0)))), (0, .ref (ad 46)), (3, .int what), (5, .int (nI (cn (fun k => vw (T q1) k && !vw (T q2) k) k))), (6, .int (nI (cn (fun k => !vw (T q1) k && vw (T q2) k) k))), (7, .int (nI k))]) hx hb d_Mo_both_119 hl (by decide) rfl (fun ls hl => ?_)
                    refine lv_iload hx hb d_Mo_both_121 (lv_at hl 3 rfl) ?_
                    refine lv_aload_n hx hb d_Mo_both_123 rfl (lv_at hl 1 rfl) ?_
                    refine mo_getr hC hK hM 34 wf_Mo_63 rfl (by decide) (by decide) d_Mo_both_124 ?_
                    refine lv_iload hx hb d_Mo_both_127 (lv_at hl 5 rfl) ?_
                    refine mo_zaldN hC hK hM 34 k (by decide) rfl (n := 3375) rfl (by decide) (i := nI k) (rfl) (by omega) (v := bI (vw (T q1) k = true)) (ask_at _ (by omega)) d_Mo_both_129 ?_
                    have hJ15 : ∀ (H : Heap) (locs : List Loc) (ls : Array Slot), MO D cT ad I J6 (va_up (va_up (va_up a 33 (pt (a 33) (wi (T q1)) 0 3375)) 34 (pt (a 34) (wi (T q1)) 0 3375)) 33 (pt (pt (a 33) (wi (T q1)) 0 3375) (wi (T q2)) 0 3375)) g6 s.heap H locs → lv_has ls 8 [(0, .ref (ad 46)), (3, .int what), (4, .int (nI ((cn (fun k => vw (T q1) k && vw (T q2) k) k) + (if vw (T q1) k = true then if vw (T q2) k = true then 1 else 0 else 0)))), (5, .int (nI (cn (fun k => vw (T q1) k && !vw (T q2) k) k))), (6, .int (nI (cn (fun k => !vw (T q1) k && vw (T q2) k) k))), (7, .int (nI k))] → W p l e (rmOf 6 169) s m args below meth c H locs 0 0 Q (F0 m 148 ls [.int (nI (if vw (T q1) k = true then if vw (T q2) k = true then 0 else 1 else 0)), .int (nI (cn (fun k => vw (T q1) k && !vw (T q2) k) k))]) := ?_
                    · skip
                      refine bz_eq (tgt := 147) hx hb d_Mo_both_130 (by decide) (fun h16 => ?_) (fun h16 => ?_)
                      · skip
                        refine lv_iconst (v := 0) hx hb d_Mo_both_147 (by decide) ?_
                        refine topi_eq (show (0 : Int32) = nI (if vw (T q1) k = true then if vw (T q2) k = true then 0 else 1 else 0) by first | rfl | exact (bI_t (by assumption)).symm | exact (bI_f (by assumption)).symm | exact (bI_f (fun z => z (by assumption))).symm | (rw [if_neg h16]; done) | (rw [if_neg h16]; rfl) | (simp only [if_neg h16]; done) | (simp only [if_neg h16]; rfl)) ?_
                        exact hJ15 _ _ _ (by first | exact hM | (simp only [if_neg h16]; exact hM)) (by first | exact lv_sub hl [1, 2, 0, 3, 4, 5] rfl | (simp only [if_neg h16]; exact lv_sub hl [1, 2, 0, 3, 4, 5] rfl))
                      · skip
                        refine lv_aload_n hx hb d_Mo_both_133 rfl (lv_at hl 1 rfl) ?_
                        refine mo_getr hC hK hM 33 wf_Mo_59 rfl (by decide) (by decide) d_Mo_both_134 ?_
                        refine lv_iload hx hb d_Mo_both_137 (lv_at hl 5 rfl) ?_
                        refine mo_zaldN hC hK hM 33 k (by decide) rfl (n := 3375) rfl (by decide) (i := nI k) (rfl) (by omega) (v := bI (vw (T q2) k = true)) (ask_at _ (by omega)) d_Mo_both_139 ?_
                        refine bz_ne (tgt := 147) hx hb d_Mo_both_140 (by decide) (fun h17 => ?_) (fun h17 => ?_)
                        · skip
                          refine lv_iconst (v := 0) hx hb d_Mo_both_147 (by decide) ?_
                          refine topi_eq (show (0 : Int32) = nI (if vw (T q1) k = true then if vw (T q2) k = true then 0 else 1 else 0) by first | rfl | exact (bI_t (by assumption)).symm | exact (bI_f (by assumption)).symm | exact (bI_f (fun z => z (by assumption))).symm | (rw [if_pos h16, if_pos h17]; done) | (rw [if_pos h16, if_pos h17]; rfl) | (simp only [if_pos h16, if_pos h17]; done) | (simp only [if_pos h16, if_pos h17]; rfl)) ?_
                          exact hJ15 _ _ _ (by first | exact hM | (simp only [if_pos h16, if_pos h17]; exact hM)) (by first | exact lv_sub hl [1, 2, 0, 3, 4, 5] rfl | (simp only [if_pos h16, if_pos h17]; exact lv_sub hl [1, 2, 0, 3, 4, 5] rfl))
                        · skip
                          refine lv_iconst (v := 1) hx hb d_Mo_both_143 (by decide) ?_
                          refine lv_goto (tgt := 148) hx hb d_Mo_both_144 (by decide) ?_
                          refine topi_eq (show (1 : Int32) = nI (if vw (T q1) k = true then if vw (T q2) k = true then 0 else 1 else 0) by first | rfl | exact (bI_t (by assumption)).symm | exact (bI_f (by assumption)).symm | exact (bI_f (fun z => z (by assumption))).symm | (rw [if_pos h16, if_neg h17]; done) | (rw [if_pos h16, if_neg h17]; rfl) | (simp only [if_pos h16, if_neg h17]; done) | (simp only [if_pos h16, if_neg h17]; rfl)) ?_
                          exact hJ15 _ _ _ (by first | exact hM | (simp only [if_pos h16, if_neg h17]; exact hM)) (by first | exact lv_sub hl [1, 2, 0, 3, 4, 5] rfl | (simp only [if_pos h16, if_neg h17]; exact lv_sub hl [1, 2, 0, 3, 4, 5] rfl))
                    intro H locs ls hM hl
                    refine lv_iadd hx hb d_Mo_both_148 ?_
                    refine topi_eq (nI_add (cn (fun k => vw (T q1) k && !vw (T q2) k) k) (if vw (T q1) k = true then if vw (T q2) k = true then 0 else 1 else 0)) ?_
                    refine lv_istore (lv' := [(5, .int (nI ((cn (fun k => vw (T q1) k && !vw (T q2) k) k) + (if vw (T q1) k = true then if vw (T q2) k = true then 0 else 1 else 0)))), (0, .ref (ad 46)), (3, .int what), (4, .int (nI ((cn (fun k => vw (T q1) k && vw (T q2) k) k) + (if vw (T q1) k = true then if vw (T q2) k = true then 1 else 0 else 0)))), (6, .int (nI (cn (fun k => !vw (T q1) k && vw (T q2) k) k))), (7, .int (nI k))]) hx hb d_Mo_both_149 hl (by decide) rfl (fun ls hl => ?_)
                    refine lv_iload hx hb d_Mo_both_151 (lv_at hl 4 rfl) ?_
                    refine lv_aload_n hx hb d_Mo_both_153 rfl (lv_at hl 1 rfl) ?_
                    refine mo_getr hC hK hM 34 wf_Mo_63 rfl (by decide) (by decide) d_Mo_both_154 ?_
                    refine lv_iload hx hb d_Mo_both_157 (lv_at hl 5 rfl) ?_
                    refine mo_zaldN hC hK hM 34 k (by decide) rfl (n := 3375) rfl (by decide) (i := nI k) (rfl) (by omega) (v := bI (vw (T q1) k = true)) (ask_at _ (by omega)) d_Mo_both_159 ?_
                    have hJ18 : ∀ (H : Heap) (locs : List Loc) (ls : Array Slot), MO D cT ad I J6 (va_up (va_up (va_up a 33 (pt (a 33) (wi (T q1)) 0 3375)) 34 (pt (a 34) (wi (T q1)) 0 3375)) 33 (pt (pt (a 33) (wi (T q1)) 0 3375) (wi (T q2)) 0 3375)) g6 s.heap H locs → lv_has ls 8 [(0, .ref (ad 46)), (3, .int what), (4, .int (nI ((cn (fun k => vw (T q1) k && vw (T q2) k) k) + (if vw (T q1) k = true then if vw (T q2) k = true then 1 else 0 else 0)))), (5, .int (nI ((cn (fun k => vw (T q1) k && !vw (T q2) k) k) + (if vw (T q1) k = true then if vw (T q2) k = true then 0 else 1 else 0)))), (6, .int (nI (cn (fun k => !vw (T q1) k && vw (T q2) k) k))), (7, .int (nI k))] → W p l e (rmOf 6 169) s m args below meth c H locs 0 0 Q (F0 m 178 ls [.int (nI (if vw (T q1) k = true then 0 else if vw (T q2) k = true then 1 else 0)), .int (nI (cn (fun k => !vw (T q1) k && vw (T q2) k) k))]) := ?_
                    · skip
                      refine bz_ne (tgt := 177) hx hb d_Mo_both_160 (by decide) (fun h19 => ?_) (fun h19 => ?_)
                      · skip
                        refine lv_iconst (v := 0) hx hb d_Mo_both_177 (by decide) ?_
                        refine topi_eq (show (0 : Int32) = nI (if vw (T q1) k = true then 0 else if vw (T q2) k = true then 1 else 0) by first | rfl | exact (bI_t (by assumption)).symm | exact (bI_f (by assumption)).symm | exact (bI_f (fun z => z (by assumption))).symm | (rw [if_pos h19]; done) | (rw [if_pos h19]; rfl) | (simp only [if_pos h19]; done) | (simp only [if_pos h19]; rfl)) ?_
                        exact hJ18 _ _ _ (by first | exact hM | (simp only [if_pos h19]; exact hM)) (by first | exact lv_sub hl [1, 2, 3, 0, 4, 5] rfl | (simp only [if_pos h19]; exact lv_sub hl [1, 2, 3, 0, 4, 5] rfl))
                      · skip
                        refine lv_aload_n hx hb d_Mo_both_163 rfl (lv_at hl 1 rfl) ?_
                        refine mo_getr hC hK hM 33 wf_Mo_59 rfl (by decide) (by decide) d_Mo_both_164 ?_
                        refine lv_iload hx hb d_Mo_both_167 (lv_at hl 5 rfl) ?_
                        refine mo_zaldN hC hK hM 33 k (by decide) rfl (n := 3375) rfl (by decide) (i := nI k) (rfl) (by omega) (v := bI (vw (T q2) k = true)) (ask_at _ (by omega)) d_Mo_both_169 ?_
                        refine bz_eq (tgt := 177) hx hb d_Mo_both_170 (by decide) (fun h20 => ?_) (fun h20 => ?_)
                        · skip
                          refine lv_iconst (v := 0) hx hb d_Mo_both_177 (by decide) ?_
                          refine topi_eq (show (0 : Int32) = nI (if vw (T q1) k = true then 0 else if vw (T q2) k = true then 1 else 0) by first | rfl | exact (bI_t (by assumption)).symm | exact (bI_f (by assumption)).symm | exact (bI_f (fun z => z (by assumption))).symm | (rw [if_neg h19, if_neg h20]; done) | (rw [if_neg h19, if_neg h20]; rfl) | (simp only [if_neg h19, if_neg h20]; done) | (simp only [if_neg h19, if_neg h20]; rfl)) ?_
                          exact hJ18 _ _ _ (by first | exact hM | (simp only [if_neg h19, if_neg h20]; exact hM)) (by first | exact lv_sub hl [1, 2, 3, 0, 4, 5] rfl | (simp only [if_neg h19, if_neg h20]; exact lv_sub hl [1, 2, 3, 0, 4, 5] rfl))
                        · skip
                          refine lv_iconst (v := 1) hx hb d_Mo_both_173 (by decide) ?_
                          refine lv_goto (tgt := 178) hx hb d_Mo_both_174 (by decide) ?_
                          refine topi_eq (show (1 : Int32) = nI (if vw (T q1) k = true then 0 else if vw (T q2) k = true then 1 else 0) by first | rfl | exact (bI_t (by assumption)).symm | exact (bI_f (by assumption)).symm | exact (bI_f (fun z => z (by assumption))).symm | (rw [if_neg h19, if_pos h20]; done) | (rw [if_neg h19, if_pos h20]; rfl) | (simp only [if_neg h19, if_pos h20]; done) | (simp only [if_neg h19, if_pos h20]; rfl)) ?_
                          exact hJ18 _ _ _ (by first | exact hM | (simp only [if_neg h19, if_pos h20]; exact hM)) (by first | exact lv_sub hl [1, 2, 3, 0, 4, 5] rfl | (simp only [if_neg h19, if_pos h20]; exact lv_sub hl [1, 2, 3, 0, 4, 5] rfl))
                    intro H locs ls hM hl
                    refine lv_iadd hx hb d_Mo_both_178 ?_
                    refine topi_eq (nI_add (cn (fun k => !vw (T q1) k && vw (T q2) k) k) (if vw (T q1) k = true then 0 else if vw (T q2) k = true then 1 else 0)) ?_
                    refine lv_istore (lv' := [(6, .int (nI ((cn (fun k => !vw (T q1) k && vw (T q2) k) k) + (if vw (T q1) k = true then 0 else if vw (T q2) k = true then 1 else 0)))), (0, .ref (ad 46)), (3, .int what), (4, .int (nI ((cn (fun k => vw (T q1) k && vw (T q2) k) k) + (if vw (T q1) k = true then if vw (T q2) k = true then 1 else 0 else 0)))), (5, .int (nI ((cn (fun k => vw (T q1) k && !vw (T q2) k) k) + (if vw (T q1) k = true then if vw (T q2) k = true then 0 else 1 else 0)))), (7, .int (nI k))]) hx hb d_Mo_both_179 hl (by decide) rfl (fun ls hl => ?_)
                    refine lv_iinc (v := nI (k + 1)) (lv' := [(7, .int (nI (k + 1))), (6, .int (nI ((cn (fun k => !vw (T q1) k && vw (T q2) k) k) + (if vw (T q1) k = true then 0 else if vw (T q2) k = true then 1 else 0)))), (0, .ref (ad 46)), (3, .int what), (4, .int (nI ((cn (fun k => vw (T q1) k && vw (T q2) k) k) + (if vw (T q1) k = true then if vw (T q2) k = true then 1 else 0 else 0)))), (5, .int (nI ((cn (fun k => vw (T q1) k && !vw (T q2) k) k) + (if vw (T q1) k = true then if vw (T q2) k = true then 0 else 1 else 0))))]) hx hb d_Mo_both_181 hl (k := 5) rfl (nI_add k 1) (by decide) rfl (fun ls hl => ?_)
                    refine lv_goto (tgt := 83) hx hb d_Mo_both_184 (by decide) ?_
                    exact ih83 (k + 1) _ _ _ (by omega) (by omega) (hM) (by rw [show cn (fun k => vw (T q1) k && vw (T q2) k) (k + 1) = (cn (fun k => vw (T q1) k && vw (T q2) k) k) + (if vw (T q1) k = true then if vw (T q2) k = true then 1 else 0 else 0) from congrArg _ (b00 _ _), show cn (fun k => vw (T q1) k && !vw (T q2) k) (k + 1) = (cn (fun k => vw (T q1) k && !vw (T q2) k) k) + (if vw (T q1) k = true then if vw (T q2) k = true then 0 else 1 else 0) from congrArg _ (b01 _ _), show cn (fun k => !vw (T q1) k && vw (T q2) k) (k + 1) = (cn (fun k => !vw (T q1) k && vw (T q2) k) k) + (if vw (T q1) k = true then 0 else if vw (T q2) k = true then 1 else 0) from congrArg _ (b10 _ _)]; exact lv_sub hl [2, 3, 4, 5, 1, 0] rfl)
              exact hL83 _ 0 _ _ _ (Nat.lt_succ_self _) (by omega) (hM) (lv_sub hl [4, 6, 3, 2, 1, 0] rfl)
            · skip
              refine lv_aload_n hx hb d_Mo_both_46 rfl (lv_at hl 0 rfl) ?_
              refine mo_getr hC hK hM 34 wf_Mo_63 rfl (by decide) (by decide) d_Mo_both_47 ?_
              refine lv_iload hx hb d_Mo_both_50 (lv_at hl 3 rfl) ?_
              refine lv_aload_n hx hb d_Mo_both_52 rfl (lv_at hl 0 rfl) ?_
              refine mo_getr hC hK hM 33 wf_Mo_59 rfl (by decide) (by decide) d_Mo_both_53 ?_
              refine lv_iload hx hb d_Mo_both_56 (lv_at hl 3 rfl) ?_
              refine mo_zaldN hC hK hM 33 k (by decide) rfl (n := 3375) rfl (by decide) (i := nI k) (rfl) (by omega) (v := bI (vw (T q1) k = true)) (ask_at _ (by omega)) d_Mo_both_58 ?_
              refine mo_zastN hC hK hM 34 k (by decide) rfl (n := 3375) rfl (by decide) (i := nI k) (x := bI (vw (T q1) k = true)) (rfl) (by omega) (by first | exact Or.inl rfl | exact Or.inr rfl | exact bI_01) d_Mo_both_59 (fun H locs hM => ?_)
              rw [bx_uu] at hM
              replace hM : MO D cT ad I J4 (va_up (va_up a 33 (pt (a 33) (wi (T q1)) 0 3375)) 34 (upd (pt (a 34) (wi (T q1)) 0 k) k (bI (vw (T q1) k = true)))) g4 s.heap H locs := hM
              refine lv_iinc (v := nI (k + 1)) (lv' := [(4, .int (nI (k + 1))), (0, .ref (ad 46)), (2, .int (nI q2)), (3, .int what)]) hx hb d_Mo_both_60 hl (k := 3) rfl (nI_add k 1) (by decide) rfl (fun ls hl => ?_)
              refine lv_goto (tgt := 38) hx hb d_Mo_both_63 (by decide) ?_
              exact ih38 (k + 1) _ _ _ (by omega) (by omega) (by rw [← pt_succ (x := wi (T q1) k) _ _ _ _ rfl, Nat.zero_add]; exact hM) (lv_sub hl [1, 2, 3, 0] rfl)
        exact hL38 _ 0 _ _ _ (Nat.lt_succ_self _) (by omega) (by rw [pt_0, up_same2 (by rfl)]; exact hM) (lv_sub hl [1, 3, 4, 0] rfl)
      · skip
        refine lv_iconst (v := (-1)) hx hb d_Mo_both_28 (by decide) ?_
        exact hret _ _ _ _ _ _ _ _ _ d_Mo_both_29 hM (⟨SP_a (fun _ _ => rfl), by rw [if_neg (by omega)]⟩)
set_option maxHeartbeats 1000000 in
set_option maxRecDepth 100000 in
theorem c_Mo_ray (l : Launch) (D : va_G) (cT : Nat → ClassId) (ad : Nat → Nat) (I : Nat → Int32) (J : Nat → Int64) (a : Nat → Nat → Int32) (g : Nat → Nat → Int64) (b : Int32) (x : Int32) (y : Int32) (z : Int32) (u : Int32) (v : Int32) (w : Int32) (nbo : Nat) (T : Nat → TX) (hnb : I 0 = nI nbo) (h8 : nbo ≤ 8) (hT : ∀ q, q < nbo → BDT a q (T q)) : MMi l D cT ad y_Mo_ray b_Mo_ray 9 (some .int) 5 147 [.int b, .int x, .int y, .int z, .int u, .int v, .int w] I J a g (fun r s => SP I a s ∧ if (0 ≤ b.toInt ∧ b.toInt < (nbo : Int)) ∧ (-7 ≤ x.toInt ∧ x.toInt ≤ 7 ∧ -7 ≤ y.toInt ∧ y.toInt ≤ 7 ∧ -7 ≤ z.toInt ∧ z.toInt ≤ 7) ∧ (-3 ≤ u.toInt ∧ u.toInt ≤ 3) ∧ (-3 ≤ v.toInt ∧ v.toInt ≤ 3) ∧ (-3 ≤ w.toInt ∧ w.toInt ≤ 3) ∧ ¬ (u.toInt = 0 ∧ v.toInt = 0 ∧ w.toInt = 0) then RY (T b.toInt.toNat) x.toInt y.toInt z.toInt u.toInt v.toInt w.toInt r else r = -1) := by
  refine mo_enti (by decide) rfl (Nat.le_of_ble_eq_true rfl) ?_
  intro p e s m args below meth c Q hC hK hM hret ls hl
  have hx := hC.1
  have hb := hC.2.1
  replace hl : lv_has ls 9 [(0, .ref (ad 46)), (1, .int b), (2, .int x), (3, .int y), (4, .int z), (5, .int u), (6, .int v), (7, .int w)] := hl
  refine lv_aload_n hx hb d_Mo_ray_0 rfl (lv_at hl 0 rfl) ?_
  refine lv_iload_n hx hb d_Mo_ray_1 rfl (lv_at hl 1 rfl) ?_
  refine mo_callr (np := 1) hC hK hM (c_Mo_is l D cT ad I J a g b nbo hnb h8) rfl ⟨wl_Mo_204, wi_Mo_is, ws_Mo_is, wc_Mo_is, wn_Mo⟩ ⟨by decide, by decide, by decide +kernel⟩ ⟨Nat.le_of_ble_eq_true rfl, Nat.le_of_ble_eq_true rfl⟩ hl.1 rfl (rest := []) rfl (Nat.le_of_ble_eq_true rfl) ⟨Nat.zero_le _, Nat.zero_le _⟩ d_Mo_ray_2 (fun rr hrr => ?_)
  subst hrr
  refine bz_eq (tgt := 78) hx hb d_Mo_ray_5 (by decide) (fun h1 => ?_) (fun h1 => ?_)
  · skip
    refine lv_iconst (v := (-1)) hx hb d_Mo_ray_78 (by decide) ?_
    exact hret _ _ _ _ _ _ _ _ _ d_Mo_ray_79 hM (⟨SP_a (fun _ _ => rfl), by rw [if_neg (by omega)]⟩)
  · skip
    refine lv_iload_n hx hb d_Mo_ray_8 rfl (lv_at hl 2 rfl) ?_
    refine lv_iload_n hx hb d_Mo_ray_9 rfl (lv_at hl 3 rfl) ?_
    refine lv_iload hx hb d_Mo_ray_10 (lv_at hl 4 rfl) ?_
    refine st_calli (np := 3) hC (c_Mo_isPoint l x y z x.toInt y.toInt z.toInt rfl rfl rfl) ⟨wl_Mo_221, wt_Mo_isPoint, wc_Mo_isPoint, wn_Mo⟩ ⟨by decide, by decide, by decide +kernel⟩ ⟨Nat.le_of_ble_eq_true rfl, Nat.le_of_ble_eq_true rfl⟩ hl.1 rfl (rest := []) rfl (Nat.le_of_ble_eq_true rfl) ⟨Nat.zero_le _, Nat.zero_le _⟩ d_Mo_ray_12 (fun rr hrr => ?_)
    subst hrr
    refine bz_eq (tgt := 78) hx hb d_Mo_ray_15 (by decide) (fun h2 => ?_) (fun h2 => ?_)
    · skip
      refine lv_iconst (v := (-1)) hx hb d_Mo_ray_78 (by decide) ?_
      exact hret _ _ _ _ _ _ _ _ _ d_Mo_ray_79 hM (⟨SP_a (fun _ _ => rfl), by rw [if_neg (by omega)]⟩)
    · skip
      refine lv_iload hx hb d_Mo_ray_18 (lv_at hl 5 rfl) ?_
      refine lv_i2l (v := iL u.toInt) hx hb d_Mo_ray_20 (x_l _) ?_
      refine lv_ldc2 (v := (-3)) hx hb hC.2.2.2.1 (hC.2.2.2.2 _ wx_Mo_301) d_Mo_ray_21 ?_
      refine lv_ldc2 (v := 3) hx hb hC.2.2.2.1 (hC.2.2.2.2 _ wx_Mo_266) d_Mo_ray_24 ?_
      refine st_calli (np := 3) hC (c_Mo_in l (iL (u.toInt)) (-3) 3 u.toInt (-3) 3 (iL_tx u) rfl rfl) ⟨wl_Mo_91, wt_Mo_in, wc_Mo_in, wn_Mo⟩ ⟨by decide, by decide, by decide +kernel⟩ ⟨Nat.le_of_ble_eq_true rfl, Nat.le_of_ble_eq_true rfl⟩ hl.1 rfl (rest := []) rfl (Nat.le_of_ble_eq_true rfl) ⟨Nat.zero_le _, Nat.zero_le _⟩ d_Mo_ray_27 (fun rr hrr => ?_)
      subst hrr
      refine bz_eq (tgt := 78) hx hb d_Mo_ray_30 (by decide) (fun h3 => ?_) (fun h3 => ?_)
      · skip
        refine lv_iconst (v := (-1)) hx hb d_Mo_ray_78 (by decide) ?_
        exact hret _ _ _ _ _ _ _ _ _ d_Mo_ray_79 hM (⟨SP_a (fun _ _ => rfl), by rw [if_neg (by omega)]⟩)
      · skip
        refine lv_iload hx hb d_Mo_ray_33 (lv_at hl 6 rfl) ?_
        refine lv_i2l (v := iL v.toInt) hx hb d_Mo_ray_35 (x_l _) ?_
        refine lv_ldc2 (v := (-3)) hx hb hC.2.2.2.1 (hC.2.2.2.2 _ wx_Mo_301) d_Mo_ray_36 ?_
        refine lv_ldc2 (v := 3) hx hb hC.2.2.2.1 (hC.2.2.2.2 _ wx_Mo_266) d_Mo_ray_39 ?_
        refine st_calli (np := 3) hC (c_Mo_in l (iL (v.toInt)) (-3) 3 v.toInt (-3) 3 (iL_tx v) rfl rfl) ⟨wl_Mo_91, wt_Mo_in, wc_Mo_in, wn_Mo⟩ ⟨by decide, by decide, by decide +kernel⟩ ⟨Nat.le_of_ble_eq_true rfl, Nat.le_of_ble_eq_true rfl⟩ hl.1 rfl (rest := []) rfl (Nat.le_of_ble_eq_true rfl) ⟨Nat.zero_le _, Nat.zero_le _⟩ d_Mo_ray_42 (fun rr hrr => ?_)
        subst hrr
        refine bz_eq (tgt := 78) hx hb d_Mo_ray_45 (by decide) (fun h4 => ?_) (fun h4 => ?_)
        · skip
          refine lv_iconst (v := (-1)) hx hb d_Mo_ray_78 (by decide) ?_
          exact hret _ _ _ _ _ _ _ _ _ d_Mo_ray_79 hM (⟨SP_a (fun _ _ => rfl), by rw [if_neg (by omega)]⟩)
        · skip
          refine lv_iload hx hb d_Mo_ray_48 (lv_at hl 7 rfl) ?_
          refine lv_i2l (v := iL w.toInt) hx hb d_Mo_ray_50 (x_l _) ?_
          refine lv_ldc2 (v := (-3)) hx hb hC.2.2.2.1 (hC.2.2.2.2 _ wx_Mo_301) d_Mo_ray_51 ?_
          refine lv_ldc2 (v := 3) hx hb hC.2.2.2.1 (hC.2.2.2.2 _ wx_Mo_266) d_Mo_ray_54 ?_
          refine st_calli (np := 3) hC (c_Mo_in l (iL (w.toInt)) (-3) 3 w.toInt (-3) 3 (iL_tx w) rfl rfl) ⟨wl_Mo_91, wt_Mo_in, wc_Mo_in, wn_Mo⟩ ⟨by decide, by decide, by decide +kernel⟩ ⟨Nat.le_of_ble_eq_true rfl, Nat.le_of_ble_eq_true rfl⟩ hl.1 rfl (rest := []) rfl (Nat.le_of_ble_eq_true rfl) ⟨Nat.zero_le _, Nat.zero_le _⟩ d_Mo_ray_57 (fun rr hrr => ?_)
          subst hrr
          refine bz_eq (tgt := 78) hx hb d_Mo_ray_60 (by decide) (fun h5 => ?_) (fun h5 => ?_)
          · skip
            refine lv_iconst (v := (-1)) hx hb d_Mo_ray_78 (by decide) ?_
            exact hret _ _ _ _ _ _ _ _ _ d_Mo_ray_79 hM (⟨SP_a (fun _ _ => rfl), by rw [if_neg (by omega)]⟩)
          · skip
            refine lv_iload hx hb d_Mo_ray_63 (lv_at hl 5 rfl) ?_
            refine yz_ne hx hb u.toInt (rfl) d_Mo_ray_65 (tgt := 80) (by decide) (fun h6 => ?_) (fun h6 => ?_)
            · skip
              obtain ⟨q, hq, rfl, hqt⟩ := ex_nI (n := 7) (x := b) (by omega) (by omega)
              have hqn : q < nbo := by omega
              obtain ⟨XX, rfl, hXX, hXX1, hXX2⟩ := ex_iI x
              obtain ⟨YY, rfl, hYY, hYY1, hYY2⟩ := ex_iI y
              obtain ⟨ZZ, rfl, hZZ, hZZ1, hZZ2⟩ := ex_iI z
              obtain ⟨UU, rfl, hUU, hUU1, hUU2⟩ := ex_iI u
              obtain ⟨VV, rfl, hVV, hVV1, hVV2⟩ := ex_iI v
              obtain ⟨WW, rfl, hWW, hWW1, hWW2⟩ := ex_iI w
              refine lv_iconst (v := 0) hx hb d_Mo_ray_80 (by decide) ?_
              refine lv_istore (lv' := [(8, .int 0), (0, .ref (ad 46)), (1, .int (nI q)), (2, .int (iI XX)), (3, .int (iI YY)), (4, .int (iI ZZ)), (5, .int (iI UU)), (6, .int (iI VV)), (7, .int (iI WW))]) hx hb d_Mo_ray_81 hl (by decide) rfl (fun ls hl => ?_)
              have hL83 : ∀ (nn : Nat) (k : Nat) (J2 : Nat → Int64) (g2 : Nat → Nat → Int64) (H : Heap) (locs : List Loc) (ls : Array Slot), 16 - k < nn → (k ≤ 15) → (∀ j, j < k → inS XX YY ZZ UU VV WW j ∧ ¬ vl (T q) (XX + j * UU) (YY + j * VV) (ZZ + j * WW) < 0) → MO D cT ad I J2 a g2 s.heap H locs → lv_has ls 9 [(0, .ref (ad 46)), (1, .int (nI q)), (2, .int (iI XX)), (3, .int (iI YY)), (4, .int (iI ZZ)), (5, .int (iI UU)), (6, .int (iI VV)), (7, .int (iI WW)), (8, .int (nI k))] → W p l e (rmOf 5 147) s m args below meth c H locs 0 0 Q (F0 m 83 ls []) := by
                intro nn
                induction nn with
                | zero =>
                  intro k J2 g2 H locs ls hmeas83 hk hprev hM hl
                  exact absurd hmeas83 (Nat.not_lt_zero _)
                | succ nn ih83 =>
                  intro k J2 g2 H locs ls hmeas83 hk hprev hM hl
                  have bU : -45 ≤ (k : Int) * UU ∧ (k : Int) * UU ≤ 45 := kmul hk (by omega)
                  have bV : -45 ≤ (k : Int) * VV ∧ (k : Int) * VV ≤ 45 := kmul hk (by omega)
                  have bW : -45 ≤ (k : Int) * WW ∧ (k : Int) * WW ≤ 45 := kmul hk (by omega)
                  refine lv_iload_n hx hb d_Mo_ray_83 rfl (lv_at hl 2 rfl) ?_
                  refine lv_iload hx hb d_Mo_ray_84 (lv_at hl 8 rfl) ?_
                  refine lv_iload hx hb d_Mo_ray_86 (lv_at hl 5 rfl) ?_
                  refine lv_imul hx hb d_Mo_ray_88 ?_
                  refine topi_eq (iI_mul (↑k : Int) UU) ?_
                  refine lv_iadd hx hb d_Mo_ray_89 ?_
                  refine topi_eq (iI_add XX ((↑k : Int) * UU)) ?_
                  refine lv_iload_n hx hb d_Mo_ray_90 rfl (lv_at hl 3 rfl) ?_
                  refine lv_iload hx hb d_Mo_ray_91 (lv_at hl 8 rfl) ?_
                  refine lv_iload hx hb d_Mo_ray_93 (lv_at hl 6 rfl) ?_
                  refine lv_imul hx hb d_Mo_ray_95 ?_
                  refine topi_eq (iI_mul (↑k : Int) VV) ?_
                  refine lv_iadd hx hb d_Mo_ray_96 ?_
                  refine topi_eq (iI_add YY ((↑k : Int) * VV)) ?_
                  refine lv_iload hx hb d_Mo_ray_97 (lv_at hl 4 rfl) ?_
                  refine lv_iload hx hb d_Mo_ray_99 (lv_at hl 8 rfl) ?_
                  refine lv_iload hx hb d_Mo_ray_101 (lv_at hl 7 rfl) ?_
                  refine lv_imul hx hb d_Mo_ray_103 ?_
                  refine topi_eq (iI_mul (↑k : Int) WW) ?_
                  refine lv_iadd hx hb d_Mo_ray_104 ?_
                  refine topi_eq (iI_add ZZ ((↑k : Int) * WW)) ?_
                  refine st_calli (np := 3) hC (c_Mo_isPoint l (iI (XX + ((↑k : Int) * UU))) (iI (YY + ((↑k : Int) * VV))) (iI (ZZ + ((↑k : Int) * WW))) (XX + ((↑k : Int) * UU)) (YY + ((↑k : Int) * VV)) (ZZ + ((↑k : Int) * WW)) (iI_toInt (z := XX + ((↑k : Int) * UU)) (by omega) (by omega)) (iI_toInt (z := YY + ((↑k : Int) * VV)) (by omega) (by omega)) (iI_toInt (z := ZZ + ((↑k : Int) * WW)) (by omega) (by omega))) ⟨wl_Mo_221, wt_Mo_isPoint, wc_Mo_isPoint, wn_Mo⟩ ⟨by decide, by decide, by decide +kernel⟩ ⟨Nat.le_of_ble_eq_true rfl, Nat.le_of_ble_eq_true rfl⟩ hl.1 rfl (rest := []) rfl (Nat.le_of_ble_eq_true rfl) ⟨Nat.zero_le _, Nat.zero_le _⟩ d_Mo_ray_105 (fun rr hrr => ?_)
                  subst hrr
                  refine bz_eq (tgt := 150) hx hb d_Mo_ray_108 (by decide) (fun h7 => ?_) (fun h7 => ?_)
                  · skip
                    refine lv_bipush (v := (-4)) hx hb d_Mo_ray_150 (by decide) ?_
                    refine hret _ _ _ _ _ _ _ _ _ d_Mo_ray_152 hM ?_
                    refine ⟨SP_a (fun _ _ => rfl), ?_⟩
                    rw [if_pos (by omega), hqt, hXX, hYY, hZZ, hUU, hVV, hWW]
                    exact ⟨k, hk, hprev, Or.inr ⟨by assumption, rfl⟩⟩
                  · skip
                    have k14 : k ≤ 14 := by rcases (show UU ≠ 0 ∨ VV ≠ 0 ∨ WW ≠ 0 by omega) with h9 | h9 | h9 <;> have := ray_b (k := k) h9 <;> omega
                    refine lv_aload_n hx hb d_Mo_ray_111 rfl (lv_at hl 0 rfl) ?_
                    refine lv_iload_n hx hb d_Mo_ray_112 rfl (lv_at hl 1 rfl) ?_
                    refine lv_iload_n hx hb d_Mo_ray_113 rfl (lv_at hl 2 rfl) ?_
                    refine lv_iload hx hb d_Mo_ray_114 (lv_at hl 8 rfl) ?_
                    refine lv_iload hx hb d_Mo_ray_116 (lv_at hl 5 rfl) ?_
                    refine lv_imul hx hb d_Mo_ray_118 ?_
                    refine topi_eq (iI_mul (↑k : Int) UU) ?_
                    refine lv_iadd hx hb d_Mo_ray_119 ?_
                    refine topi_eq (iI_add XX ((↑k : Int) * UU)) ?_
                    refine lv_iload_n hx hb d_Mo_ray_120 rfl (lv_at hl 3 rfl) ?_
                    refine lv_iload hx hb d_Mo_ray_121 (lv_at hl 8 rfl) ?_
                    refine lv_iload hx hb d_Mo_ray_123 (lv_at hl 6 rfl) ?_
                    refine lv_imul hx hb d_Mo_ray_125 ?_
                    refine topi_eq (iI_mul (↑k : Int) VV) ?_
                    refine lv_iadd hx hb d_Mo_ray_126 ?_
                    refine topi_eq (iI_add YY ((↑k : Int) * VV)) ?_
                    refine lv_iload hx hb d_Mo_ray_127 (lv_at hl 4 rfl) ?_
                    refine lv_iload hx hb d_Mo_ray_129 (lv_at hl 8 rfl) ?_
                    refine lv_iload hx hb d_Mo_ray_131 (lv_at hl 7 rfl) ?_
                    refine lv_imul hx hb d_Mo_ray_133 ?_
                    refine topi_eq (iI_mul (↑k : Int) WW) ?_
                    refine lv_iadd hx hb d_Mo_ray_134 ?_
                    refine topi_eq (iI_add ZZ ((↑k : Int) * WW)) ?_
                    refine mo_calli (np := 4) hC hK hM (c_Mo_isWithin l D cT ad I J2 a g2 q (XX + ((↑k : Int) * UU)) (YY + ((↑k : Int) * VV)) (ZZ + ((↑k : Int) * WW)) (T q) (by omega) (hT q (by omega)) (by omega) (by omega) (by omega)) rfl ⟨wl_Mo_252, wi_Mo_isWithin, ws_Mo_isWithin, wc_Mo_isWithin, wn_Mo⟩ ⟨by decide, by decide, by decide +kernel⟩ ⟨Nat.le_of_ble_eq_true rfl, Nat.le_of_ble_eq_true rfl⟩ hl.1 rfl (rest := []) rfl (Nat.le_of_ble_eq_true rfl) ⟨Nat.zero_le _, Nat.zero_le _⟩ d_Mo_ray_135 (fun rr8 I9 J9 a9 g9 H locs hp9 hM => ?_)
                    obtain ⟨hI_p9, hA_p9, hr_p9⟩ := hp9
                    replace hI_p9 : I9 = I := hI_p9
                    replace hA_p9 : a9 = a := hA_p9
                    rw [hI_p9, hA_p9] at hM
                    subst hr_p9
                    refine bz_eq (tgt := 144) hx hb d_Mo_ray_138 (by decide) (fun h10 => ?_) (fun h10 => ?_)
                    · skip
                      refine lv_iinc (v := nI (k + 1)) (lv' := [(8, .int (nI (k + 1))), (0, .ref (ad 46)), (1, .int (nI q)), (2, .int (iI XX)), (3, .int (iI YY)), (4, .int (iI ZZ)), (5, .int (iI UU)), (6, .int (iI VV)), (7, .int (iI WW))]) hx hb d_Mo_ray_144 hl (k := 8) rfl (nI_add k 1) (by decide) rfl (fun ls hl => ?_)
                      refine lv_goto (tgt := 83) hx hb d_Mo_ray_147 (by decide) ?_
                      exact ih83 (k + 1) _ _ _ _ _ (by omega) (by omega) (lt_s hprev ⟨h7, h10⟩) (hM) (lv_sub hl [1, 2, 3, 4, 5, 6, 7, 8, 0] rfl)
                    · skip
                      refine lv_iload hx hb d_Mo_ray_141 (lv_at hl 8 rfl) ?_
                      refine hret _ _ _ _ _ _ _ _ _ d_Mo_ray_143 hM ?_
                      refine ⟨SP_a (fun _ _ => rfl), ?_⟩
                      rw [if_pos (by omega), hqt, hXX, hYY, hZZ, hUU, hVV, hWW]
                      exact ⟨k, hk, hprev, Or.inl ⟨by assumption, by assumption, rfl⟩⟩
              exact hL83 _ 0 _ _ _ _ _ (Nat.lt_succ_self _) (by omega) (fun j hj => absurd hj (Nat.not_lt_zero j)) (hM) (lv_sub hl [1, 2, 3, 4, 5, 6, 7, 8, 0] rfl)
            · skip
              refine lv_iload hx hb d_Mo_ray_68 (lv_at hl 6 rfl) ?_
              refine yz_ne hx hb v.toInt (rfl) d_Mo_ray_70 (tgt := 80) (by decide) (fun h11 => ?_) (fun h11 => ?_)
              · skip
                obtain ⟨q, hq, rfl, hqt⟩ := ex_nI (n := 7) (x := b) (by omega) (by omega)
                have hqn : q < nbo := by omega
                obtain ⟨XX, rfl, hXX, hXX1, hXX2⟩ := ex_iI x
                obtain ⟨YY, rfl, hYY, hYY1, hYY2⟩ := ex_iI y
                obtain ⟨ZZ, rfl, hZZ, hZZ1, hZZ2⟩ := ex_iI z
                obtain ⟨UU, rfl, hUU, hUU1, hUU2⟩ := ex_iI u
                obtain ⟨VV, rfl, hVV, hVV1, hVV2⟩ := ex_iI v
                obtain ⟨WW, rfl, hWW, hWW1, hWW2⟩ := ex_iI w
                refine lv_iconst (v := 0) hx hb d_Mo_ray_80 (by decide) ?_
                refine lv_istore (lv' := [(8, .int 0), (0, .ref (ad 46)), (1, .int (nI q)), (2, .int (iI XX)), (3, .int (iI YY)), (4, .int (iI ZZ)), (5, .int (iI UU)), (6, .int (iI VV)), (7, .int (iI WW))]) hx hb d_Mo_ray_81 hl (by decide) rfl (fun ls hl => ?_)
                have hL83 : ∀ (nn : Nat) (k : Nat) (J2 : Nat → Int64) (g2 : Nat → Nat → Int64) (H : Heap) (locs : List Loc) (ls : Array Slot), 16 - k < nn → (k ≤ 15) → (∀ j, j < k → inS XX YY ZZ UU VV WW j ∧ ¬ vl (T q) (XX + j * UU) (YY + j * VV) (ZZ + j * WW) < 0) → MO D cT ad I J2 a g2 s.heap H locs → lv_has ls 9 [(0, .ref (ad 46)), (1, .int (nI q)), (2, .int (iI XX)), (3, .int (iI YY)), (4, .int (iI ZZ)), (5, .int (iI UU)), (6, .int (iI VV)), (7, .int (iI WW)), (8, .int (nI k))] → W p l e (rmOf 5 147) s m args below meth c H locs 0 0 Q (F0 m 83 ls []) := by
                  intro nn
                  induction nn with
                  | zero =>
                    intro k J2 g2 H locs ls hmeas83 hk hprev hM hl
                    exact absurd hmeas83 (Nat.not_lt_zero _)
                  | succ nn ih83 =>
                    intro k J2 g2 H locs ls hmeas83 hk hprev hM hl
                    have bU : -45 ≤ (k : Int) * UU ∧ (k : Int) * UU ≤ 45 := kmul hk (by omega)
                    have bV : -45 ≤ (k : Int) * VV ∧ (k : Int) * VV ≤ 45 := kmul hk (by omega)
                    have bW : -45 ≤ (k : Int) * WW ∧ (k : Int) * WW ≤ 45 := kmul hk (by omega)
                    refine lv_iload_n hx hb d_Mo_ray_83 rfl (lv_at hl 2 rfl) ?_
                    refine lv_iload hx hb d_Mo_ray_84 (lv_at hl 8 rfl) ?_
                    refine lv_iload hx hb d_Mo_ray_86 (lv_at hl 5 rfl) ?_
                    refine lv_imul hx hb d_Mo_ray_88 ?_
                    refine topi_eq (iI_mul (↑k : Int) UU) ?_
                    refine lv_iadd hx hb d_Mo_ray_89 ?_
                    refine topi_eq (iI_add XX ((↑k : Int) * UU)) ?_
                    refine lv_iload_n hx hb d_Mo_ray_90 rfl (lv_at hl 3 rfl) ?_
                    refine lv_iload hx hb d_Mo_ray_91 (lv_at hl 8 rfl) ?_
                    refine lv_iload hx hb d_Mo_ray_93 (lv_at hl 6 rfl) ?_
                    refine lv_imul hx hb d_Mo_ray_95 ?_
                    refine topi_eq (iI_mul (↑k : Int) VV) ?_
                    refine lv_iadd hx hb d_Mo_ray_96 ?_
                    refine topi_eq (iI_add YY ((↑k : Int) * VV)) ?_
                    refine lv_iload hx hb d_Mo_ray_97 (lv_at hl 4 rfl) ?_
                    refine lv_iload hx hb d_Mo_ray_99 (lv_at hl 8 rfl) ?_
                    refine lv_iload hx hb d_Mo_ray_101 (lv_at hl 7 rfl) ?_
                    refine lv_imul hx hb d_Mo_ray_103 ?_
                    refine topi_eq (iI_mul (↑k : Int) WW) ?_
                    refine lv_iadd hx hb d_Mo_ray_104 ?_
                    refine topi_eq (iI_add ZZ ((↑k : Int) * WW)) ?_
                    refine st_calli (np := 3) hC (c_Mo_isPoint l (iI (XX + ((↑k : Int) * UU))) (iI (YY + ((↑k : Int) * VV))) (iI (ZZ + ((↑k : Int) * WW))) (XX + ((↑k : Int) * UU)) (YY + ((↑k : Int) * VV)) (ZZ + ((↑k : Int) * WW)) (iI_toInt (z := XX + ((↑k : Int) * UU)) (by omega) (by omega)) (iI_toInt (z := YY + ((↑k : Int) * VV)) (by omega) (by omega)) (iI_toInt (z := ZZ + ((↑k : Int) * WW)) (by omega) (by omega))) ⟨wl_Mo_221, wt_Mo_isPoint, wc_Mo_isPoint, wn_Mo⟩ ⟨by decide, by decide, by decide +kernel⟩ ⟨Nat.le_of_ble_eq_true rfl, Nat.le_of_ble_eq_true rfl⟩ hl.1 rfl (rest := []) rfl (Nat.le_of_ble_eq_true rfl) ⟨Nat.zero_le _, Nat.zero_le _⟩ d_Mo_ray_105 (fun rr hrr => ?_)
                    subst hrr
                    refine bz_eq (tgt := 150) hx hb d_Mo_ray_108 (by decide) (fun h12 => ?_) (fun h12 => ?_)
                    · skip
                      refine lv_bipush (v := (-4)) hx hb d_Mo_ray_150 (by decide) ?_
                      refine hret _ _ _ _ _ _ _ _ _ d_Mo_ray_152 hM ?_
                      refine ⟨SP_a (fun _ _ => rfl), ?_⟩
                      rw [if_pos (by omega), hqt, hXX, hYY, hZZ, hUU, hVV, hWW]
                      exact ⟨k, hk, hprev, Or.inr ⟨by assumption, rfl⟩⟩
                    · skip
                      have k14 : k ≤ 14 := by rcases (show UU ≠ 0 ∨ VV ≠ 0 ∨ WW ≠ 0 by omega) with h9 | h9 | h9 <;> have := ray_b (k := k) h9 <;> omega
                      refine lv_aload_n hx hb d_Mo_ray_111 rfl (lv_at hl 0 rfl) ?_
                      refine lv_iload_n hx hb d_Mo_ray_112 rfl (lv_at hl 1 rfl) ?_
                      refine lv_iload_n hx hb d_Mo_ray_113 rfl (lv_at hl 2 rfl) ?_
                      refine lv_iload hx hb d_Mo_ray_114 (lv_at hl 8 rfl) ?_
                      refine lv_iload hx hb d_Mo_ray_116 (lv_at hl 5 rfl) ?_
                      refine lv_imul hx hb d_Mo_ray_118 ?_
                      refine topi_eq (iI_mul (↑k : Int) UU) ?_
                      refine lv_iadd hx hb d_Mo_ray_119 ?_
                      refine topi_eq (iI_add XX ((↑k : Int) * UU)) ?_
                      refine lv_iload_n hx hb d_Mo_ray_120 rfl (lv_at hl 3 rfl) ?_
                      refine lv_iload hx hb d_Mo_ray_121 (lv_at hl 8 rfl) ?_
                      refine lv_iload hx hb d_Mo_ray_123 (lv_at hl 6 rfl) ?_
                      refine lv_imul hx hb d_Mo_ray_125 ?_
                      refine topi_eq (iI_mul (↑k : Int) VV) ?_
                      refine lv_iadd hx hb d_Mo_ray_126 ?_
                      refine topi_eq (iI_add YY ((↑k : Int) * VV)) ?_
                      refine lv_iload hx hb d_Mo_ray_127 (lv_at hl 4 rfl) ?_
                      refine lv_iload hx hb d_Mo_ray_129 (lv_at hl 8 rfl) ?_
                      refine lv_iload hx hb d_Mo_ray_131 (lv_at hl 7 rfl) ?_
                      refine lv_imul hx hb d_Mo_ray_133 ?_
                      refine topi_eq (iI_mul (↑k : Int) WW) ?_
                      refine lv_iadd hx hb d_Mo_ray_134 ?_
                      refine topi_eq (iI_add ZZ ((↑k : Int) * WW)) ?_
                      refine mo_calli (np := 4) hC hK hM (c_Mo_isWithin l D cT ad I J2 a g2 q (XX + ((↑k : Int) * UU)) (YY + ((↑k : Int) * VV)) (ZZ + ((↑k : Int) * WW)) (T q) (by omega) (hT q (by omega)) (by omega) (by omega) (by omega)) rfl ⟨wl_Mo_252, wi_Mo_isWithin, ws_Mo_isWithin, wc_Mo_isWithin, wn_Mo⟩ ⟨by decide, by decide, by decide +kernel⟩ ⟨Nat.le_of_ble_eq_true rfl, Nat.le_of_ble_eq_true rfl⟩ hl.1 rfl (rest := []) rfl (Nat.le_of_ble_eq_true rfl) ⟨Nat.zero_le _, Nat.zero_le _⟩ d_Mo_ray_135 (fun rr13 I14 J14 a14 g14 H locs hp14 hM => ?_)
                      obtain ⟨hI_p14, hA_p14, hr_p14⟩ := hp14
                      replace hI_p14 : I14 = I := hI_p14
                      replace hA_p14 : a14 = a := hA_p14
                      rw [hI_p14, hA_p14] at hM
                      subst hr_p14
                      refine bz_eq (tgt := 144) hx hb d_Mo_ray_138 (by decide) (fun h15 => ?_) (fun h15 => ?_)
                      · skip
                        refine lv_iinc (v := nI (k + 1)) (lv' := [(8, .int (nI (k + 1))), (0, .ref (ad 46)), (1, .int (nI q)), (2, .int (iI XX)), (3, .int (iI YY)), (4, .int (iI ZZ)), (5, .int (iI UU)), (6, .int (iI VV)), (7, .int (iI WW))]) hx hb d_Mo_ray_144 hl (k := 8) rfl (nI_add k 1) (by decide) rfl (fun ls hl => ?_)
                        refine lv_goto (tgt := 83) hx hb d_Mo_ray_147 (by decide) ?_
                        exact ih83 (k + 1) _ _ _ _ _ (by omega) (by omega) (lt_s hprev ⟨h12, h15⟩) (hM) (lv_sub hl [1, 2, 3, 4, 5, 6, 7, 8, 0] rfl)
                      · skip
                        refine lv_iload hx hb d_Mo_ray_141 (lv_at hl 8 rfl) ?_
                        refine hret _ _ _ _ _ _ _ _ _ d_Mo_ray_143 hM ?_
                        refine ⟨SP_a (fun _ _ => rfl), ?_⟩
                        rw [if_pos (by omega), hqt, hXX, hYY, hZZ, hUU, hVV, hWW]
                        exact ⟨k, hk, hprev, Or.inl ⟨by assumption, by assumption, rfl⟩⟩
                exact hL83 _ 0 _ _ _ _ _ (Nat.lt_succ_self _) (by omega) (fun j hj => absurd hj (Nat.not_lt_zero j)) (hM) (lv_sub hl [1, 2, 3, 4, 5, 6, 7, 8, 0] rfl)
              · skip
                refine lv_iload hx hb d_Mo_ray_73 (lv_at hl 7 rfl) ?_
                refine yz_ne hx hb w.toInt (rfl) d_Mo_ray_75 (tgt := 80) (by decide) (fun h16 => ?_) (fun h16 => ?_)
                · skip
                  obtain ⟨q, hq, rfl, hqt⟩ := ex_nI (n := 7) (x := b) (by omega) (by omega)
                  have hqn : q < nbo := by omega
                  obtain ⟨XX, rfl, hXX, hXX1, hXX2⟩ := ex_iI x
                  obtain ⟨YY, rfl, hYY, hYY1, hYY2⟩ := ex_iI y
                  obtain ⟨ZZ, rfl, hZZ, hZZ1, hZZ2⟩ := ex_iI z
                  obtain ⟨UU, rfl, hUU, hUU1, hUU2⟩ := ex_iI u
                  obtain ⟨VV, rfl, hVV, hVV1, hVV2⟩ := ex_iI v
                  obtain ⟨WW, rfl, hWW, hWW1, hWW2⟩ := ex_iI w
                  refine lv_iconst (v := 0) hx hb d_Mo_ray_80 (by decide) ?_
                  refine lv_istore (lv' := [(8, .int 0), (0, .ref (ad 46)), (1, .int (nI q)), (2, .int (iI XX)), (3, .int (iI YY)), (4, .int (iI ZZ)), (5, .int (iI UU)), (6, .int (iI VV)), (7, .int (iI WW))]) hx hb d_Mo_ray_81 hl (by decide) rfl (fun ls hl => ?_)
                  have hL83 : ∀ (nn : Nat) (k : Nat) (J2 : Nat → Int64) (g2 : Nat → Nat → Int64) (H : Heap) (locs : List Loc) (ls : Array Slot), 16 - k < nn → (k ≤ 15) → (∀ j, j < k → inS XX YY ZZ UU VV WW j ∧ ¬ vl (T q) (XX + j * UU) (YY + j * VV) (ZZ + j * WW) < 0) → MO D cT ad I J2 a g2 s.heap H locs → lv_has ls 9 [(0, .ref (ad 46)), (1, .int (nI q)), (2, .int (iI XX)), (3, .int (iI YY)), (4, .int (iI ZZ)), (5, .int (iI UU)), (6, .int (iI VV)), (7, .int (iI WW)), (8, .int (nI k))] → W p l e (rmOf 5 147) s m args below meth c H locs 0 0 Q (F0 m 83 ls []) := by
                    intro nn
                    induction nn with
                    | zero =>
                      intro k J2 g2 H locs ls hmeas83 hk hprev hM hl
                      exact absurd hmeas83 (Nat.not_lt_zero _)
                    | succ nn ih83 =>
                      intro k J2 g2 H locs ls hmeas83 hk hprev hM hl
                      have bU : -45 ≤ (k : Int) * UU ∧ (k : Int) * UU ≤ 45 := kmul hk (by omega)
                      have bV : -45 ≤ (k : Int) * VV ∧ (k : Int) * VV ≤ 45 := kmul hk (by omega)
                      have bW : -45 ≤ (k : Int) * WW ∧ (k : Int) * WW ≤ 45 := kmul hk (by omega)
                      refine lv_iload_n hx hb d_Mo_ray_83 rfl (lv_at hl 2 rfl) ?_
                      refine lv_iload hx hb d_Mo_ray_84 (lv_at hl 8 rfl) ?_
                      refine lv_iload hx hb d_Mo_ray_86 (lv_at hl 5 rfl) ?_
                      refine lv_imul hx hb d_Mo_ray_88 ?_
                      refine topi_eq (iI_mul (↑k : Int) UU) ?_
                      refine lv_iadd hx hb d_Mo_ray_89 ?_
                      refine topi_eq (iI_add XX ((↑k : Int) * UU)) ?_
                      refine lv_iload_n hx hb d_Mo_ray_90 rfl (lv_at hl 3 rfl) ?_
                      refine lv_iload hx hb d_Mo_ray_91 (lv_at hl 8 rfl) ?_
                      refine lv_iload hx hb d_Mo_ray_93 (lv_at hl 6 rfl) ?_
                      refine lv_imul hx hb d_Mo_ray_95 ?_
                      refine topi_eq (iI_mul (↑k : Int) VV) ?_
                      refine lv_iadd hx hb d_Mo_ray_96 ?_
                      refine topi_eq (iI_add YY ((↑k : Int) * VV)) ?_
                      refine lv_iload hx hb d_Mo_ray_97 (lv_at hl 4 rfl) ?_
                      refine lv_iload hx hb d_Mo_ray_99 (lv_at hl 8 rfl) ?_
                      refine lv_iload hx hb d_Mo_ray_101 (lv_at hl 7 rfl) ?_
                      refine lv_imul hx hb d_Mo_ray_103 ?_
                      refine topi_eq (iI_mul (↑k : Int) WW) ?_
                      refine lv_iadd hx hb d_Mo_ray_104 ?_
                      refine topi_eq (iI_add ZZ ((↑k : Int) * WW)) ?_
                      refine st_calli (np := 3) hC (c_Mo_isPoint l (iI (XX + ((↑k : Int) * UU))) (iI (YY + ((↑k : Int) * VV))) (iI (ZZ + ((↑k : Int) * WW))) (XX + ((↑k : Int) * UU)) (YY + ((↑k : Int) * VV)) (ZZ + ((↑k : Int) * WW)) (iI_toInt (z := XX + ((↑k : Int) * UU)) (by omega) (by omega)) (iI_toInt (z := YY + ((↑k : Int) * VV)) (by omega) (by omega)) (iI_toInt (z := ZZ + ((↑k : Int) * WW)) (by omega) (by omega))) ⟨wl_Mo_221, wt_Mo_isPoint, wc_Mo_isPoint, wn_Mo⟩ ⟨by decide, by decide, by decide +kernel⟩ ⟨Nat.le_of_ble_eq_true rfl, Nat.le_of_ble_eq_true rfl⟩ hl.1 rfl (rest := []) rfl (Nat.le_of_ble_eq_true rfl) ⟨Nat.zero_le _, Nat.zero_le _⟩ d_Mo_ray_105 (fun rr hrr => ?_)
                      subst hrr
                      refine bz_eq (tgt := 150) hx hb d_Mo_ray_108 (by decide) (fun h17 => ?_) (fun h17 => ?_)
                      · skip
                        refine lv_bipush (v := (-4)) hx hb d_Mo_ray_150 (by decide) ?_
                        refine hret _ _ _ _ _ _ _ _ _ d_Mo_ray_152 hM ?_
                        refine ⟨SP_a (fun _ _ => rfl), ?_⟩
                        rw [if_pos (by omega), hqt, hXX, hYY, hZZ, hUU, hVV, hWW]
                        exact ⟨k, hk, hprev, Or.inr ⟨by assumption, rfl⟩⟩
                      · skip
                        have k14 : k ≤ 14 := by rcases (show UU ≠ 0 ∨ VV ≠ 0 ∨ WW ≠ 0 by omega) with h9 | h9 | h9 <;> have := ray_b (k := k) h9 <;> omega
                        refine lv_aload_n hx hb d_Mo_ray_111 rfl (lv_at hl 0 rfl) ?_
                        refine lv_iload_n hx hb d_Mo_ray_112 rfl (lv_at hl 1 rfl) ?_
                        refine lv_iload_n hx hb d_Mo_ray_113 rfl (lv_at hl 2 rfl) ?_
                        refine lv_iload hx hb d_Mo_ray_114 (lv_at hl 8 rfl) ?_
                        refine lv_iload hx hb d_Mo_ray_116 (lv_at hl 5 rfl) ?_
                        refine lv_imul hx hb d_Mo_ray_118 ?_
                        refine topi_eq (iI_mul (↑k : Int) UU) ?_
                        refine lv_iadd hx hb d_Mo_ray_119 ?_
                        refine topi_eq (iI_add XX ((↑k : Int) * UU)) ?_
                        refine lv_iload_n hx hb d_Mo_ray_120 rfl (lv_at hl 3 rfl) ?_
                        refine lv_iload hx hb d_Mo_ray_121 (lv_at hl 8 rfl) ?_
                        refine lv_iload hx hb d_Mo_ray_123 (lv_at hl 6 rfl) ?_
                        refine lv_imul hx hb d_Mo_ray_125 ?_
                        refine topi_eq (iI_mul (↑k : Int) VV) ?_
                        refine lv_iadd hx hb d_Mo_ray_126 ?_
                        refine topi_eq (iI_add YY ((↑k : Int) * VV)) ?_
                        refine lv_iload hx hb d_Mo_ray_127 (lv_at hl 4 rfl) ?_
                        refine lv_iload hx hb d_Mo_ray_129 (lv_at hl 8 rfl) ?_
                        refine lv_iload hx hb d_Mo_ray_131 (lv_at hl 7 rfl) ?_
                        refine lv_imul hx hb d_Mo_ray_133 ?_
                        refine topi_eq (iI_mul (↑k : Int) WW) ?_
                        refine lv_iadd hx hb d_Mo_ray_134 ?_
                        refine topi_eq (iI_add ZZ ((↑k : Int) * WW)) ?_
                        refine mo_calli (np := 4) hC hK hM (c_Mo_isWithin l D cT ad I J2 a g2 q (XX + ((↑k : Int) * UU)) (YY + ((↑k : Int) * VV)) (ZZ + ((↑k : Int) * WW)) (T q) (by omega) (hT q (by omega)) (by omega) (by omega) (by omega)) rfl ⟨wl_Mo_252, wi_Mo_isWithin, ws_Mo_isWithin, wc_Mo_isWithin, wn_Mo⟩ ⟨by decide, by decide, by decide +kernel⟩ ⟨Nat.le_of_ble_eq_true rfl, Nat.le_of_ble_eq_true rfl⟩ hl.1 rfl (rest := []) rfl (Nat.le_of_ble_eq_true rfl) ⟨Nat.zero_le _, Nat.zero_le _⟩ d_Mo_ray_135 (fun rr18 I19 J19 a19 g19 H locs hp19 hM => ?_)
                        obtain ⟨hI_p19, hA_p19, hr_p19⟩ := hp19
                        replace hI_p19 : I19 = I := hI_p19
                        replace hA_p19 : a19 = a := hA_p19
                        rw [hI_p19, hA_p19] at hM
                        subst hr_p19
                        refine bz_eq (tgt := 144) hx hb d_Mo_ray_138 (by decide) (fun h20 => ?_) (fun h20 => ?_)
                        · skip
                          refine lv_iinc (v := nI (k + 1)) (lv' := [(8, .int (nI (k + 1))), (0, .ref (ad 46)), (1, .int (nI q)), (2, .int (iI XX)), (3, .int (iI YY)), (4, .int (iI ZZ)), (5, .int (iI UU)), (6, .int (iI VV)), (7, .int (iI WW))]) hx hb d_Mo_ray_144 hl (k := 8) rfl (nI_add k 1) (by decide) rfl (fun ls hl => ?_)
                          refine lv_goto (tgt := 83) hx hb d_Mo_ray_147 (by decide) ?_
                          exact ih83 (k + 1) _ _ _ _ _ (by omega) (by omega) (lt_s hprev ⟨h17, h20⟩) (hM) (lv_sub hl [1, 2, 3, 4, 5, 6, 7, 8, 0] rfl)
                        · skip
                          refine lv_iload hx hb d_Mo_ray_141 (lv_at hl 8 rfl) ?_
                          refine hret _ _ _ _ _ _ _ _ _ d_Mo_ray_143 hM ?_
                          refine ⟨SP_a (fun _ _ => rfl), ?_⟩
                          rw [if_pos (by omega), hqt, hXX, hYY, hZZ, hUU, hVV, hWW]
                          exact ⟨k, hk, hprev, Or.inl ⟨by assumption, by assumption, rfl⟩⟩
                  exact hL83 _ 0 _ _ _ _ _ (Nat.lt_succ_self _) (by omega) (fun j hj => absurd hj (Nat.not_lt_zero j)) (hM) (lv_sub hl [1, 2, 3, 4, 5, 6, 7, 8, 0] rfl)
                · skip
                  refine lv_iconst (v := (-1)) hx hb d_Mo_ray_78 (by decide) ?_
                  exact hret _ _ _ _ _ _ _ _ _ d_Mo_ray_79 hM (⟨SP_a (fun _ _ => rfl), by rw [if_neg (by omega)]⟩)
set_option maxHeartbeats 1000000 in
set_option maxRecDepth 100000 in
theorem c_Mo_scan (l : Launch) (D : va_G) (cT : Nat → ClassId) (ad : Nat → Nat) (I : Nat → Int32) (J : Nat → Int64) (a : Nat → Nat → Int32) (g : Nat → Nat → Int64) (b : Int32) (k : Int32) (lane : Int32) (f : Int32) (n : Int32) (nbo : Nat) (T : Nat → TX) (hnb : I 0 = nI nbo) (h8 : nbo ≤ 8) (hT : ∀ q, q < nbo → BDT a q (T q)) (hlen : ∀ q : Nat, q ≤ 3 → 0 ≤ (a 44 q).toInt ∧ (a 44 q).toInt ≤ 64) : MMi l D cT ad y_Mo_scan b_Mo_scan 11 (some .int) 5 147 [.int b, .int k, .int lane, .int f, .int n] I J a g (fun r u => SP I a u ∧ r = if (0 ≤ b.toInt ∧ b.toInt < (nbo : Int)) ∧ (0 ≤ k.toInt ∧ k.toInt ≤ 3) ∧ (0 ≤ lane.toInt ∧ lane.toInt ≤ 2) ∧ 0 ≤ n.toInt ∧ n.toInt ≤ 20 then (if a 43 k.toInt.toNat = lane then scn (T b.toInt.toNat) (fun j => a 45 (64 * k.toInt.toNat + j)) (a 44 k.toInt.toNat).toInt f.toInt n.toInt.toNat 0 0 else if a 43 k.toInt.toNat = -4 then -11 else -13) else -1) := by
  refine mo_enti (by decide) rfl (Nat.le_of_ble_eq_true rfl) ?_
  intro p e s m args below meth c Q hC hK hM hret ls hl
  have hx := hC.1
  have hb := hC.2.1
  replace hl : lv_has ls 11 [(0, .ref (ad 46)), (1, .int b), (2, .int k), (3, .int lane), (4, .int f), (5, .int n)] := hl
  refine lv_aload_n hx hb d_Mo_scan_0 rfl (lv_at hl 0 rfl) ?_
  refine lv_iload_n hx hb d_Mo_scan_1 rfl (lv_at hl 1 rfl) ?_
  refine mo_callr (np := 1) hC hK hM (c_Mo_is l D cT ad I J a g b nbo hnb h8) rfl ⟨wl_Mo_204, wi_Mo_is, ws_Mo_is, wc_Mo_is, wn_Mo⟩ ⟨by decide, by decide, by decide +kernel⟩ ⟨Nat.le_of_ble_eq_true rfl, Nat.le_of_ble_eq_true rfl⟩ hl.1 rfl (rest := []) rfl (Nat.le_of_ble_eq_true rfl) ⟨Nat.zero_le _, Nat.zero_le _⟩ d_Mo_scan_2 (fun rr hrr => ?_)
  subst hrr
  refine bz_eq (tgt := 45) hx hb d_Mo_scan_5 (by decide) (fun h1 => ?_) (fun h1 => ?_)
  · skip
    refine lv_iconst (v := (-1)) hx hb d_Mo_scan_45 (by decide) ?_
    exact hret _ _ _ _ _ _ _ _ _ d_Mo_scan_46 hM (⟨SP_a (fun _ _ => rfl), by rw [if_neg (by omega)]⟩)
  · skip
    refine lv_iload_n hx hb d_Mo_scan_8 rfl (lv_at hl 2 rfl) ?_
    refine lv_i2l (v := iL k.toInt) hx hb d_Mo_scan_9 (x_l _) ?_
    refine lv_lconst (v := 0) hx hb d_Mo_scan_10 (by decide) ?_
    refine lv_ldc2 (v := 3) hx hb hC.2.2.2.1 (hC.2.2.2.2 _ wx_Mo_266) d_Mo_scan_11 ?_
    refine st_calli (np := 3) hC (c_Mo_in l (iL (k.toInt)) 0 3 k.toInt 0 3 (iL_tx k) rfl rfl) ⟨wl_Mo_91, wt_Mo_in, wc_Mo_in, wn_Mo⟩ ⟨by decide, by decide, by decide +kernel⟩ ⟨Nat.le_of_ble_eq_true rfl, Nat.le_of_ble_eq_true rfl⟩ hl.1 rfl (rest := []) rfl (Nat.le_of_ble_eq_true rfl) ⟨Nat.zero_le _, Nat.zero_le _⟩ d_Mo_scan_14 (fun rr hrr => ?_)
    subst hrr
    refine bz_eq (tgt := 45) hx hb d_Mo_scan_17 (by decide) (fun h2 => ?_) (fun h2 => ?_)
    · skip
      refine lv_iconst (v := (-1)) hx hb d_Mo_scan_45 (by decide) ?_
      exact hret _ _ _ _ _ _ _ _ _ d_Mo_scan_46 hM (⟨SP_a (fun _ _ => rfl), by rw [if_neg (by omega)]⟩)
    · skip
      refine lv_iload_n hx hb d_Mo_scan_20 rfl (lv_at hl 3 rfl) ?_
      refine lv_i2l (v := iL lane.toInt) hx hb d_Mo_scan_21 (x_l _) ?_
      refine lv_lconst (v := 0) hx hb d_Mo_scan_22 (by decide) ?_
      refine lv_ldc2 (v := 2) hx hb hC.2.2.2.1 (hC.2.2.2.2 _ wx_Mo_153) d_Mo_scan_23 ?_
      refine st_calli (np := 3) hC (c_Mo_in l (iL (lane.toInt)) 0 2 lane.toInt 0 2 (iL_tx lane) rfl rfl) ⟨wl_Mo_91, wt_Mo_in, wc_Mo_in, wn_Mo⟩ ⟨by decide, by decide, by decide +kernel⟩ ⟨Nat.le_of_ble_eq_true rfl, Nat.le_of_ble_eq_true rfl⟩ hl.1 rfl (rest := []) rfl (Nat.le_of_ble_eq_true rfl) ⟨Nat.zero_le _, Nat.zero_le _⟩ d_Mo_scan_26 (fun rr hrr => ?_)
      subst hrr
      refine bz_eq (tgt := 45) hx hb d_Mo_scan_29 (by decide) (fun h3 => ?_) (fun h3 => ?_)
      · skip
        refine lv_iconst (v := (-1)) hx hb d_Mo_scan_45 (by decide) ?_
        exact hret _ _ _ _ _ _ _ _ _ d_Mo_scan_46 hM (⟨SP_a (fun _ _ => rfl), by rw [if_neg (by omega)]⟩)
      · skip
        refine lv_iload hx hb d_Mo_scan_32 (lv_at hl 5 rfl) ?_
        refine lv_i2l (v := iL n.toInt) hx hb d_Mo_scan_34 (x_l _) ?_
        refine lv_lconst (v := 0) hx hb d_Mo_scan_35 (by decide) ?_
        refine lv_ldc2 (v := 20) hx hb hC.2.2.2.1 (hC.2.2.2.2 _ wx_Mo_164) d_Mo_scan_36 ?_
        refine st_calli (np := 3) hC (c_Mo_in l (iL (n.toInt)) 0 20 n.toInt 0 20 (iL_tx n) rfl rfl) ⟨wl_Mo_91, wt_Mo_in, wc_Mo_in, wn_Mo⟩ ⟨by decide, by decide, by decide +kernel⟩ ⟨Nat.le_of_ble_eq_true rfl, Nat.le_of_ble_eq_true rfl⟩ hl.1 rfl (rest := []) rfl (Nat.le_of_ble_eq_true rfl) ⟨Nat.zero_le _, Nat.zero_le _⟩ d_Mo_scan_39 (fun rr hrr => ?_)
        subst hrr
        refine bz_ne (tgt := 47) hx hb d_Mo_scan_42 (by decide) (fun h4 => ?_) (fun h4 => ?_)
        · skip
          obtain ⟨q, hq, rfl, hqt⟩ := ex_nI (n := 7) (x := b) (by omega) (by omega)
          have hqn : q < nbo := by omega
          obtain ⟨k1, hk1, rfl, hkt⟩ := ex_nI (n := 3) (x := k) (by omega) (by omega)
          obtain ⟨n1, hn1, rfl, hnt⟩ := ex_nI (n := 20) (x := n) (by omega) (by omega)
          have hl4 := hlen k1 hk1
          have hf := x_rng f
          refine lv_aload_n hx hb d_Mo_scan_47 rfl (lv_at hl 0 rfl) ?_
          refine mo_getr hC hK hM 43 wf_Mo_78 rfl (by decide) (by decide) d_Mo_scan_48 ?_
          refine lv_iload_n hx hb d_Mo_scan_51 rfl (lv_at hl 2 rfl) ?_
          refine mo_ialdN hC hK hM 43 k1 (by decide) rfl (n := 4) rfl (by decide) (i := nI k1) (rfl) (by omega) (v := (a 43) k1) (rfl) d_Mo_scan_52 ?_
          refine lv_iload_n hx hb d_Mo_scan_53 rfl (lv_at hl 3 rfl) ?_
          refine lv_icmp_eq (tgt := 76) hx hb d_Mo_scan_54 (by decide) (fun h5 => ?_) (fun h5 => ?_)
          · skip
            refine lv_iconst (v := 0) hx hb d_Mo_scan_76 (by decide) ?_
            refine lv_istore (lv' := [(6, .int 0), (0, .ref (ad 46)), (1, .int (nI q)), (2, .int (nI k1)), (3, .int lane), (4, .int f), (5, .int (nI n1))]) hx hb d_Mo_scan_77 hl (by decide) rfl (fun ls hl => ?_)
            refine lv_iconst (v := 0) hx hb d_Mo_scan_79 (by decide) ?_
            refine lv_istore (lv' := [(7, .int 0), (6, .int 0), (0, .ref (ad 46)), (1, .int (nI q)), (2, .int (nI k1)), (3, .int lane), (4, .int f), (5, .int (nI n1))]) hx hb d_Mo_scan_80 hl (by decide) rfl (fun ls hl => ?_)
            have hL82 : ∀ (nn : Nat) (i : Nat) (sm : Nat) (J2 : Nat → Int64) (g2 : Nat → Nat → Int64) (H : Heap) (locs : List Loc) (ls : Array Slot), n1 - i < nn → (i ≤ n1 ∧ sm ≤ i) → (scn (T q) (fun j => a 45 (64 * k1 + j)) (a 44 k1).toInt f.toInt n1 0 0 = scn (T q) (fun j => a 45 (64 * k1 + j)) (a 44 k1).toInt f.toInt (n1 - i) i sm) → MO D cT ad I J2 a g2 s.heap H locs → lv_has ls 11 [(0, .ref (ad 46)), (1, .int (nI q)), (2, .int (nI k1)), (4, .int f), (5, .int (nI n1)), (6, .int (nI sm)), (7, .int (nI i))] → W p l e (rmOf 5 147) s m args below meth c H locs 0 0 Q (F0 m 82 ls []) := by
              intro nn
              induction nn with
              | zero =>
                intro i sm J2 g2 H locs ls hmeas82 hi hR hM hl
                exact absurd hmeas82 (Nat.not_lt_zero _)
              | succ nn ih82 =>
                intro i sm J2 g2 H locs ls hmeas82 hi hR hM hl
                refine lv_iload hx hb d_Mo_scan_82 (lv_at hl 6 rfl) ?_
                refine lv_iload hx hb d_Mo_scan_84 (lv_at hl 4 rfl) ?_
                refine nc_ge hx hb i n1 (by omega) (by omega) d_Mo_scan_86 (tgt := 217) (by decide) (fun h6 => ?_) (fun h6 => ?_)
                · skip
                  refine lv_iload hx hb d_Mo_scan_217 (lv_at hl 5 rfl) ?_
                  refine hret _ _ _ _ _ _ _ _ _ d_Mo_scan_219 hM ?_
                  obtain rfl : i = n1 := by omega
                  refine ⟨SP_a (fun _ _ => rfl), ?_⟩
                  rw [if_pos (by omega), hkt, hqt, hnt]
                  simp only [Int.toNat_natCast]
                  rw [if_pos (by assumption)]
                  exact (hR.trans (by rw [Nat.sub_self]; rfl)).symm
                · skip
                  refine lv_iload hx hb d_Mo_scan_89 (lv_at hl 3 rfl) ?_
                  refine lv_i2l (v := iL f.toInt) hx hb d_Mo_scan_91 (x_l _) ?_
                  refine lv_iconst (v := 3) hx hb d_Mo_scan_92 (by decide) ?_
                  refine lv_iload hx hb d_Mo_scan_93 (lv_at hl 6 rfl) ?_
                  refine lv_imul hx hb d_Mo_scan_95 ?_
                  refine topi_eq (pk_mul 3 i) ?_
                  refine lv_i2l (v := iL (↑(3 * i) : Int)) hx hb d_Mo_scan_96 (iI_l (z := (↑(3 * i) : Int)) (by omega) (by omega)) ?_
                  refine lv_ladd hx hb d_Mo_scan_97 ?_
                  refine topl_eq (iL_add f.toInt (↑(3 * i) : Int)) ?_
                  refine lv_lstore (lv' := [(8, .long (iL (f.toInt + (↑(3 * i) : Int)))), (0, .ref (ad 46)), (1, .int (nI q)), (2, .int (nI k1)), (4, .int f), (5, .int (nI n1)), (6, .int (nI sm)), (7, .int (nI i))]) hx hb d_Mo_scan_98 hl (by decide) rfl (fun ls hl => ?_)
                  refine lv_lload hx hb d_Mo_scan_100 (lv_at hl 0 rfl) ?_
                  refine lv_lconst (v := 0) hx hb d_Mo_scan_102 (by decide) ?_
                  refine lv_aload_n hx hb d_Mo_scan_103 rfl (lv_at hl 1 rfl) ?_
                  refine mo_getr hC hK hM 44 wf_Mo_81 rfl (by decide) (by decide) d_Mo_scan_104 ?_
                  refine lv_iload_n hx hb d_Mo_scan_107 rfl (lv_at hl 3 rfl) ?_
                  refine mo_ialdN hC hK hM 44 k1 (by decide) rfl (n := 4) rfl (by decide) (i := nI k1) (rfl) (by omega) (v := iI ((a 44 k1).toInt)) (iI_of _) d_Mo_scan_108 ?_
                  refine lv_iconst (v := 3) hx hb d_Mo_scan_109 (by decide) ?_
                  refine lv_isub hx hb d_Mo_scan_110 ?_
                  refine topi_eq (iI_sub ((a 44 k1).toInt) 3) ?_
                  refine lv_i2l (v := iL (((a 44 k1).toInt) - 3)) hx hb d_Mo_scan_111 (iI_l (z := ((a 44 k1).toInt) - 3) (by omega) (by omega)) ?_
                  refine st_calli (np := 3) hC (c_Mo_in l (iL (f.toInt + (↑(3 * i) : Int))) 0 (iL (((a 44 k1).toInt) - 3)) (f.toInt + (↑(3 * i) : Int)) 0 (((a 44 k1).toInt) - 3) (iL_toInt (by omega) (by omega)) rfl (iL_toInt (by omega) (by omega))) ⟨wl_Mo_91, wt_Mo_in, wc_Mo_in, wn_Mo⟩ ⟨by decide, by decide, by decide +kernel⟩ ⟨Nat.le_of_ble_eq_true rfl, Nat.le_of_ble_eq_true rfl⟩ hl.1 rfl (rest := []) rfl (Nat.le_of_ble_eq_true rfl) ⟨Nat.zero_le _, Nat.zero_le _⟩ d_Mo_scan_112 (fun rr hrr => ?_)
                  subst hrr
                  refine bz_ne (tgt := 121) hx hb d_Mo_scan_115 (by decide) (fun h7 => ?_) (fun h7 => ?_)
                  · skip
                    refine lv_bipush (v := 64) hx hb d_Mo_scan_121 (by decide) ?_
                    refine lv_iload_n hx hb d_Mo_scan_123 rfl (lv_at hl 3 rfl) ?_
                    refine lv_imul hx hb d_Mo_scan_124 ?_
                    refine topi_eq (pk_mul 64 k1) ?_
                    refine lv_lload hx hb d_Mo_scan_125 (lv_at hl 0 rfl) ?_
                    refine lv_l2i (v := iI (f.toInt + (↑(3 * i) : Int))) hx hb d_Mo_scan_127 (iL_i (by omega) (by omega)) ?_
                    refine lv_iadd hx hb d_Mo_scan_128 ?_
                    refine topi_eq (iI_add (↑(64 * k1) : Int) (f.toInt + (↑(3 * i) : Int))) ?_
                    refine lv_istore (lv' := [(10, .int (iI ((↑(64 * k1) : Int) + (f.toInt + (↑(3 * i) : Int))))), (8, .long (iL (f.toInt + (↑(3 * i) : Int)))), (0, .ref (ad 46)), (1, .int (nI q)), (2, .int (nI k1)), (4, .int f), (5, .int (nI n1)), (6, .int (nI sm)), (7, .int (nI i))]) hx hb d_Mo_scan_129 hl (by decide) rfl (fun ls hl => ?_)
                    refine lv_aload_n hx hb d_Mo_scan_131 rfl (lv_at hl 2 rfl) ?_
                    refine mo_getr hC hK hM 45 wf_Mo_84 rfl (by decide) (by decide) d_Mo_scan_132 ?_
                    refine lv_iload hx hb d_Mo_scan_135 (lv_at hl 0 rfl) ?_
                    refine mo_ialdN hC hK hM 45 (64 * k1 + (f.toInt + (↑(3 * i) : Int)).toNat) (by decide) rfl (n := 256) rfl (by decide) (i := iI ((↑(64 * k1) : Int) + (f.toInt + (↑(3 * i) : Int)))) (iI_nI (by omega)) (by omega) (v := iI ((a 45 (64 * k1 + (f.toInt + (↑(3 * i) : Int)).toNat)).toInt)) (iI_of _) d_Mo_scan_137 ?_
                    refine lv_aload_n hx hb d_Mo_scan_138 rfl (lv_at hl 2 rfl) ?_
                    refine mo_getr hC hK hM 45 wf_Mo_84 rfl (by decide) (by decide) d_Mo_scan_139 ?_
                    refine lv_iload hx hb d_Mo_scan_142 (lv_at hl 0 rfl) ?_
                    refine lv_iconst (v := 1) hx hb d_Mo_scan_144 (by decide) ?_
                    refine lv_iadd hx hb d_Mo_scan_145 ?_
                    refine topi_eq (iI_add ((↑(64 * k1) : Int) + (f.toInt + (↑(3 * i) : Int))) 1) ?_
                    refine mo_ialdN hC hK hM 45 (64 * k1 + (f.toInt + (↑(3 * i) : Int)).toNat + 1) (by decide) rfl (n := 256) rfl (by decide) (i := iI (((↑(64 * k1) : Int) + (f.toInt + (↑(3 * i) : Int))) + 1)) (iI_nI (by omega)) (by omega) (v := iI ((a 45 (64 * k1 + (f.toInt + (↑(3 * i) : Int)).toNat + 1)).toInt)) (iI_of _) d_Mo_scan_146 ?_
                    refine lv_aload_n hx hb d_Mo_scan_147 rfl (lv_at hl 2 rfl) ?_
                    refine mo_getr hC hK hM 45 wf_Mo_84 rfl (by decide) (by decide) d_Mo_scan_148 ?_
                    refine lv_iload hx hb d_Mo_scan_151 (lv_at hl 0 rfl) ?_
                    refine lv_iconst (v := 2) hx hb d_Mo_scan_153 (by decide) ?_
                    refine lv_iadd hx hb d_Mo_scan_154 ?_
                    refine topi_eq (iI_add ((↑(64 * k1) : Int) + (f.toInt + (↑(3 * i) : Int))) 2) ?_
                    refine mo_ialdN hC hK hM 45 (64 * k1 + (f.toInt + (↑(3 * i) : Int)).toNat + 2) (by decide) rfl (n := 256) rfl (by decide) (i := iI (((↑(64 * k1) : Int) + (f.toInt + (↑(3 * i) : Int))) + 2)) (iI_nI (by omega)) (by omega) (v := iI ((a 45 (64 * k1 + (f.toInt + (↑(3 * i) : Int)).toNat + 2)).toInt)) (iI_of _) d_Mo_scan_155 ?_
                    refine st_calli (np := 3) hC (c_Mo_isPoint l (iI ((a 45 (64 * k1 + (f.toInt + (↑(3 * i) : Int)).toNat)).toInt)) (iI ((a 45 (64 * k1 + (f.toInt + (↑(3 * i) : Int)).toNat + 1)).toInt)) (iI ((a 45 (64 * k1 + (f.toInt + (↑(3 * i) : Int)).toNat + 2)).toInt)) ((a 45 (64 * k1 + (f.toInt + (↑(3 * i) : Int)).toNat)).toInt) ((a 45 (64 * k1 + (f.toInt + (↑(3 * i) : Int)).toNat + 1)).toInt) ((a 45 (64 * k1 + (f.toInt + (↑(3 * i) : Int)).toNat + 2)).toInt) (iI_tx (a 45 (64 * k1 + (f.toInt + (↑(3 * i) : Int)).toNat))) (iI_tx (a 45 (64 * k1 + (f.toInt + (↑(3 * i) : Int)).toNat + 1))) (iI_tx (a 45 (64 * k1 + (f.toInt + (↑(3 * i) : Int)).toNat + 2)))) ⟨wl_Mo_221, wt_Mo_isPoint, wc_Mo_isPoint, wn_Mo⟩ ⟨by decide, by decide, by decide +kernel⟩ ⟨Nat.le_of_ble_eq_true rfl, Nat.le_of_ble_eq_true rfl⟩ hl.1 rfl (rest := []) rfl (Nat.le_of_ble_eq_true rfl) ⟨Nat.zero_le _, Nat.zero_le _⟩ d_Mo_scan_156 (fun rr hrr => ?_)
                    subst hrr
                    refine bz_ne (tgt := 168) hx hb d_Mo_scan_159 (by decide) (fun h8 => ?_) (fun h8 => ?_)
                    · skip
                      refine lv_iload hx hb d_Mo_scan_168 (lv_at hl 7 rfl) ?_
                      refine lv_aload_n hx hb d_Mo_scan_170 rfl (lv_at hl 2 rfl) ?_
                      refine lv_iload_n hx hb d_Mo_scan_171 rfl (lv_at hl 3 rfl) ?_
                      refine lv_aload_n hx hb d_Mo_scan_172 rfl (lv_at hl 2 rfl) ?_
                      refine mo_getr hC hK hM 45 wf_Mo_84 rfl (by decide) (by decide) d_Mo_scan_173 ?_
                      refine lv_iload hx hb d_Mo_scan_176 (lv_at hl 0 rfl) ?_
                      refine mo_ialdN hC hK hM 45 (64 * k1 + (f.toInt + (↑(3 * i) : Int)).toNat) (by decide) rfl (n := 256) rfl (by decide) (i := iI ((↑(64 * k1) : Int) + (f.toInt + (↑(3 * i) : Int)))) (iI_nI (by omega)) (by omega) (v := iI ((a 45 (64 * k1 + (f.toInt + (↑(3 * i) : Int)).toNat)).toInt)) (iI_of _) d_Mo_scan_178 ?_
                      refine lv_aload_n hx hb d_Mo_scan_179 rfl (lv_at hl 2 rfl) ?_
                      refine mo_getr hC hK hM 45 wf_Mo_84 rfl (by decide) (by decide) d_Mo_scan_180 ?_
                      refine lv_iload hx hb d_Mo_scan_183 (lv_at hl 0 rfl) ?_
                      refine lv_iconst (v := 1) hx hb d_Mo_scan_185 (by decide) ?_
                      refine lv_iadd hx hb d_Mo_scan_186 ?_
                      refine topi_eq (iI_add ((↑(64 * k1) : Int) + (f.toInt + (↑(3 * i) : Int))) 1) ?_
                      refine mo_ialdN hC hK hM 45 (64 * k1 + (f.toInt + (↑(3 * i) : Int)).toNat + 1) (by decide) rfl (n := 256) rfl (by decide) (i := iI (((↑(64 * k1) : Int) + (f.toInt + (↑(3 * i) : Int))) + 1)) (iI_nI (by omega)) (by omega) (v := iI ((a 45 (64 * k1 + (f.toInt + (↑(3 * i) : Int)).toNat + 1)).toInt)) (iI_of _) d_Mo_scan_187 ?_
                      refine lv_aload_n hx hb d_Mo_scan_188 rfl (lv_at hl 2 rfl) ?_
                      refine mo_getr hC hK hM 45 wf_Mo_84 rfl (by decide) (by decide) d_Mo_scan_189 ?_
                      refine lv_iload hx hb d_Mo_scan_192 (lv_at hl 0 rfl) ?_
                      refine lv_iconst (v := 2) hx hb d_Mo_scan_194 (by decide) ?_
                      refine lv_iadd hx hb d_Mo_scan_195 ?_
                      refine topi_eq (iI_add ((↑(64 * k1) : Int) + (f.toInt + (↑(3 * i) : Int))) 2) ?_
                      refine mo_ialdN hC hK hM 45 (64 * k1 + (f.toInt + (↑(3 * i) : Int)).toNat + 2) (by decide) rfl (n := 256) rfl (by decide) (i := iI (((↑(64 * k1) : Int) + (f.toInt + (↑(3 * i) : Int))) + 2)) (iI_nI (by omega)) (by omega) (v := iI ((a 45 (64 * k1 + (f.toInt + (↑(3 * i) : Int)).toNat + 2)).toInt)) (iI_of _) d_Mo_scan_196 ?_
                      refine mo_calli (np := 4) hC hK hM (c_Mo_isWithin l D cT ad I J2 a g2 q ((a 45 (64 * k1 + (f.toInt + (↑(3 * i) : Int)).toNat)).toInt) ((a 45 (64 * k1 + (f.toInt + (↑(3 * i) : Int)).toNat + 1)).toInt) ((a 45 (64 * k1 + (f.toInt + (↑(3 * i) : Int)).toNat + 2)).toInt) (T q) (by omega) (hT q (by omega)) (by omega) (by omega) (by omega)) rfl ⟨wl_Mo_252, wi_Mo_isWithin, ws_Mo_isWithin, wc_Mo_isWithin, wn_Mo⟩ ⟨by decide, by decide, by decide +kernel⟩ ⟨Nat.le_of_ble_eq_true rfl, Nat.le_of_ble_eq_true rfl⟩ hl.1 rfl (rest := [.int (nI sm)]) rfl (Nat.le_of_ble_eq_true rfl) ⟨Nat.zero_le _, Nat.zero_le _⟩ d_Mo_scan_197 (fun rr9 I10 J10 a10 g10 H locs hp10 hM => ?_)
                      obtain ⟨hI_p10, hA_p10, hr_p10⟩ := hp10
                      replace hI_p10 : I10 = I := hI_p10
                      replace hA_p10 : a10 = a := hA_p10
                      rw [hI_p10, hA_p10] at hM
                      subst hr_p10
                      have hJ11 : ∀ (H : Heap) (locs : List Loc) (ls : Array Slot), MO D cT ad I J10 a g10 s.heap H locs → lv_has ls 11 [(0, .ref (ad 46)), (1, .int (nI q)), (2, .int (nI k1)), (4, .int f), (5, .int (nI n1)), (6, .int (nI sm)), (7, .int (nI i)), (8, .long (iL (f.toInt + (↑(3 * i) : Int)))), (10, .int (iI ((↑(64 * k1) : Int) + (f.toInt + (↑(3 * i) : Int)))))] → W p l e (rmOf 5 147) s m args below meth c H locs 0 0 Q (F0 m 208 ls [.int (nI (if vl (T q) ((a 45 (64 * k1 + (f.toInt + (↑(3 * i) : Int)).toNat)).toInt) ((a 45 (64 * k1 + (f.toInt + (↑(3 * i) : Int)).toNat + 1)).toInt) ((a 45 (64 * k1 + (f.toInt + (↑(3 * i) : Int)).toNat + 2)).toInt) < 0 then 1 else 0)), .int (nI sm)]) := ?_
                      · skip
                        refine bz_eq (tgt := 207) hx hb d_Mo_scan_200 (by decide) (fun h12 => ?_) (fun h12 => ?_)
                        · skip
                          refine lv_iconst (v := 0) hx hb d_Mo_scan_207 (by decide) ?_
                          refine topi_eq (show (0 : Int32) = nI (if vl (T q) ((a 45 (64 * k1 + (f.toInt + (↑(3 * i) : Int)).toNat)).toInt) ((a 45 (64 * k1 + (f.toInt + (↑(3 * i) : Int)).toNat + 1)).toInt) ((a 45 (64 * k1 + (f.toInt + (↑(3 * i) : Int)).toNat + 2)).toInt) < 0 then 1 else 0) by first | rfl | exact (bI_t (by assumption)).symm | exact (bI_f (by assumption)).symm | exact (bI_f (fun z => z (by assumption))).symm | (rw [if_neg h12]; done) | (rw [if_neg h12]; rfl) | (simp only [if_neg h12]; done) | (simp only [if_neg h12]; rfl)) ?_
                          exact hJ11 _ _ _ (by first | exact hM | (simp only [if_neg h12]; exact hM)) (by first | exact lv_sub hl [2, 3, 4, 5, 6, 7, 8, 1, 0] rfl | (simp only [if_neg h12]; exact lv_sub hl [2, 3, 4, 5, 6, 7, 8, 1, 0] rfl))
                        · skip
                          refine lv_iconst (v := 1) hx hb d_Mo_scan_203 (by decide) ?_
                          refine lv_goto (tgt := 208) hx hb d_Mo_scan_204 (by decide) ?_
                          refine topi_eq (show (1 : Int32) = nI (if vl (T q) ((a 45 (64 * k1 + (f.toInt + (↑(3 * i) : Int)).toNat)).toInt) ((a 45 (64 * k1 + (f.toInt + (↑(3 * i) : Int)).toNat + 1)).toInt) ((a 45 (64 * k1 + (f.toInt + (↑(3 * i) : Int)).toNat + 2)).toInt) < 0 then 1 else 0) by first | rfl | exact (bI_t (by assumption)).symm | exact (bI_f (by assumption)).symm | exact (bI_f (fun z => z (by assumption))).symm | (rw [if_pos h12]; done) | (rw [if_pos h12]; rfl) | (simp only [if_pos h12]; done) | (simp only [if_pos h12]; rfl)) ?_
                          exact hJ11 _ _ _ (by first | exact hM | (simp only [if_pos h12]; exact hM)) (by first | exact lv_sub hl [2, 3, 4, 5, 6, 7, 8, 1, 0] rfl | (simp only [if_pos h12]; exact lv_sub hl [2, 3, 4, 5, 6, 7, 8, 1, 0] rfl))
                      intro H locs ls hM hl
                      refine lv_iadd hx hb d_Mo_scan_208 ?_
                      refine topi_eq (nI_add sm (if vl (T q) ((a 45 (64 * k1 + (f.toInt + (↑(3 * i) : Int)).toNat)).toInt) ((a 45 (64 * k1 + (f.toInt + (↑(3 * i) : Int)).toNat + 1)).toInt) ((a 45 (64 * k1 + (f.toInt + (↑(3 * i) : Int)).toNat + 2)).toInt) < 0 then 1 else 0)) ?_
                      refine lv_istore (lv' := [(6, .int (nI (sm + (if vl (T q) ((a 45 (64 * k1 + (f.toInt + (↑(3 * i) : Int)).toNat)).toInt) ((a 45 (64 * k1 + (f.toInt + (↑(3 * i) : Int)).toNat + 1)).toInt) ((a 45 (64 * k1 + (f.toInt + (↑(3 * i) : Int)).toNat + 2)).toInt) < 0 then 1 else 0)))), (0, .ref (ad 46)), (1, .int (nI q)), (2, .int (nI k1)), (4, .int f), (5, .int (nI n1)), (7, .int (nI i)), (8, .long (iL (f.toInt + (↑(3 * i) : Int)))), (10, .int (iI ((↑(64 * k1) : Int) + (f.toInt + (↑(3 * i) : Int)))))]) hx hb d_Mo_scan_209 hl (by decide) rfl (fun ls hl => ?_)
                      refine lv_iinc (v := nI (i + 1)) (lv' := [(7, .int (nI (i + 1))), (6, .int (nI (sm + (if vl (T q) ((a 45 (64 * k1 + (f.toInt + (↑(3 * i) : Int)).toNat)).toInt) ((a 45 (64 * k1 + (f.toInt + (↑(3 * i) : Int)).toNat + 1)).toInt) ((a 45 (64 * k1 + (f.toInt + (↑(3 * i) : Int)).toNat + 2)).toInt) < 0 then 1 else 0)))), (0, .ref (ad 46)), (1, .int (nI q)), (2, .int (nI k1)), (4, .int f), (5, .int (nI n1)), (8, .long (iL (f.toInt + (↑(3 * i) : Int)))), (10, .int (iI ((↑(64 * k1) : Int) + (f.toInt + (↑(3 * i) : Int)))))]) hx hb d_Mo_scan_211 hl (k := 6) rfl (nI_add i 1) (by decide) rfl (fun ls hl => ?_)
                      refine lv_goto (tgt := 82) hx hb d_Mo_scan_214 (by decide) ?_
                      exact ih82 (i + 1) (sm + (if vl (T q) ((a 45 (64 * k1 + (f.toInt + (↑(3 * i) : Int)).toNat)).toInt) ((a 45 (64 * k1 + (f.toInt + (↑(3 * i) : Int)).toNat + 1)).toInt) ((a 45 (64 * k1 + (f.toInt + (↑(3 * i) : Int)).toNat + 2)).toInt) < 0 then 1 else 0)) _ _ _ _ _ (by omega) (by refine ⟨by omega, ?_⟩; split <;> omega) (hR.trans (scn_go (by omega) h7 h8)) (hM) (lv_sub hl [2, 3, 4, 5, 6, 1, 0] rfl)
                    · skip
                      refine lv_bipush (v := (-20)) hx hb d_Mo_scan_162 (by decide) ?_
                      refine lv_iload hx hb d_Mo_scan_164 (lv_at hl 8 rfl) ?_
                      refine lv_isub hx hb d_Mo_scan_166 ?_
                      refine topi_eq (y := iI ((-20) - (↑i : Int))) ((congrArg (fun z : Int32 => z - (nI i)) (show ((-20) : Int32) = iI (-20) by decide)).trans (iI_sub (-20) (↑i : Int))) ?_
                      refine hret _ _ _ _ _ _ _ _ _ d_Mo_scan_167 hM ?_
                      refine ⟨SP_a (fun _ _ => rfl), ?_⟩
                      rw [if_pos (by omega), hkt, hqt, hnt]
                      simp only [Int.toNat_natCast]
                      rw [if_pos (by assumption)]
                      exact (hR.trans (scn_np (by omega) h7 h8)).symm
                  · skip
                    refine lv_bipush (v := (-12)) hx hb d_Mo_scan_118 (by decide) ?_
                    refine hret _ _ _ _ _ _ _ _ _ d_Mo_scan_120 hM ?_
                    refine ⟨SP_a (fun _ _ => rfl), ?_⟩
                    rw [if_pos (by omega), hkt, hqt, hnt]
                    simp only [Int.toNat_natCast]
                    rw [if_pos (by assumption)]
                    exact (hR.trans (scn_out (by omega) (by assumption))).symm
            exact hL82 _ 0 0 _ _ _ _ _ (Nat.lt_succ_self _) (by omega) (by rfl) (hM) (lv_sub hl [2, 3, 4, 6, 7, 1, 0] rfl)
          · skip
            refine lv_aload_n hx hb d_Mo_scan_57 rfl (lv_at hl 0 rfl) ?_
            refine mo_getr hC hK hM 43 wf_Mo_78 rfl (by decide) (by decide) d_Mo_scan_58 ?_
            refine lv_iload_n hx hb d_Mo_scan_61 rfl (lv_at hl 2 rfl) ?_
            refine mo_ialdN hC hK hM 43 k1 (by decide) rfl (n := 4) rfl (by decide) (i := nI k1) (rfl) (by omega) (v := (a 43) k1) (rfl) d_Mo_scan_62 ?_
            refine lv_bipush (v := (-4)) hx hb d_Mo_scan_63 (by decide) ?_
            refine lv_icmp_ne (tgt := 73) hx hb d_Mo_scan_65 (by decide) (fun h13 => ?_) (fun h13 => ?_)
            · skip
              refine lv_bipush (v := (-13)) hx hb d_Mo_scan_73 (by decide) ?_
              refine hret _ _ _ _ _ _ _ _ _ d_Mo_scan_75 hM ?_
              refine ⟨SP_a (fun _ _ => rfl), ?_⟩
              rw [if_pos (by omega), hkt, Int.toNat_natCast, if_neg (by assumption), if_neg h13]
            · skip
              refine lv_bipush (v := (-11)) hx hb d_Mo_scan_68 (by decide) ?_
              refine lv_goto (tgt := 75) hx hb d_Mo_scan_70 (by decide) ?_
              refine hret _ _ _ _ _ _ _ _ _ d_Mo_scan_75 hM ?_
              refine ⟨SP_a (fun _ _ => rfl), ?_⟩
              rw [if_pos (by omega), hkt, Int.toNat_natCast, if_neg (by assumption), if_pos h13]
        · skip
          refine lv_iconst (v := (-1)) hx hb d_Mo_scan_45 (by decide) ?_
          exact hret _ _ _ _ _ _ _ _ _ d_Mo_scan_46 hM (⟨SP_a (fun _ _ => rfl), by rw [if_neg (by omega)]⟩)
