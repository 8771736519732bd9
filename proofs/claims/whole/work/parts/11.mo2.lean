/-! the reference: points by their places, sheets, the tape -/
def isE (k : Nat) : Bool := k % 15 == 0 || k % 15 == 14 || k / 15 % 15 == 0 || k / 15 % 15 == 14 || k / 225 == 0 || k / 225 == 14
/-- the place of the side of a place (0 x less, 1 x more, 2 y less, 3 y more, 4 z less, else z more); 9999: none -/
def sdv (k w : Nat) : Nat := if w = 0 then (if 0 < k % 15 then k - 1 else 9999) else if w = 1 then (if k % 15 < 14 then k + 1 else 9999) else if w = 2 then (if 0 < k / 15 % 15 then k - 15 else 9999) else if w = 3 then (if k / 15 % 15 < 14 then k + 15 else 9999) else if w = 4 then (if 0 < k / 225 then k - 225 else 9999) else (if k / 225 < 14 then k + 225 else 9999)
theorem nI_sub' {a b : Nat} (h : b ≤ a) : iI ((a : Int) - (b : Int)) = nI (a - b) := by
  rw [nI_iI]
  congr 1
  omega
theorem sdv_n {k w : Nat} (e : sdv k w = 9999) : (-4 : Int32) = if sdv k w = 9999 then -4 else nI (sdv k w) := by rw [e]; rfl
theorem sdv_s {k w T : Nat} {v : Int32} (e : sdv k w = T) (h : T ≠ 9999) (hv : v = nI T) : v = if sdv k w = 9999 then -4 else nI (sdv k w) := by rw [e, if_neg h]; exact hv
theorem iI_nI {z : Int} {n : Nat} (h : z = n) : iI z = nI n := by rw [h]; rfl
def ixp (x y z : Int) : Nat := (225 * (z + 7) + 15 * (y + 7) + (x + 7)).toNat
theorem ixp_eq {x y z : Int} (h : -7 ≤ x ∧ x ≤ 7 ∧ -7 ≤ y ∧ y ≤ 7 ∧ -7 ≤ z ∧ z ≤ 7) : iI (15 * (15 * (z + 7) + y + 7) + x + 7) = nI (ixp x y z) ∧ ixp x y z < 3375 := by
  unfold ixp
  refine ⟨iI_nI ?_, ?_⟩ <;> omega
theorem hsd_eq {k w : Nat} {f : Nat → Int32} (hk : k < 3375) (hw : w < 6) (x y z : Int) (hx : x = (↑(k % 15) : Int) - 7 + (if w / 2 = 0 then (if w % 2 = 0 then (-1) else 1) else 0)) (hy : y = (↑(k / 15 % 15) : Int) - 7 + (if w / 2 = 1 then (if w % 2 = 0 then (-1) else 1) else 0)) (hz : z = (↑(k / 225) : Int) - 7 + (if w / 2 = 2 then (if w % 2 = 0 then (-1) else 1) else 0)) : ((-7 ≤ x ∧ x ≤ 7 ∧ -7 ≤ y ∧ y ≤ 7 ∧ -7 ≤ z ∧ z ≤ 7) ∧ f (ixp x y z) = 1) ↔ (sdv k w < 3375 ∧ f (sdv k w) = 1) := by
  rcases (show w = 0 ∨ w = 1 ∨ w = 2 ∨ w = 3 ∨ w = 4 ∨ w = 5 by omega) with rfl | rfl | rfl | rfl | rfl | rfl
  · have hx : x = (↑(k % 15) : Int) - 7 + (-1) := hx
    have hy : y = (↑(k / 15 % 15) : Int) - 7 + 0 := hy
    have hz : z = (↑(k / 225) : Int) - 7 + 0 := hz
    have e : sdv k 0 = if 0 < k % 15 then k - 1 else 9999 := rfl
    rw [e]
    by_cases q : 0 < k % 15
    · rw [if_pos q, show ixp x y z = k - 1 by unfold ixp; omega]; constructor <;> intro ⟨h1, h2⟩ <;> exact ⟨by omega, h2⟩
    · rw [if_neg q]; constructor <;> intro ⟨h1, h2⟩ <;> omega
  · have hx : x = (↑(k % 15) : Int) - 7 + 1 := hx
    have hy : y = (↑(k / 15 % 15) : Int) - 7 + 0 := hy
    have hz : z = (↑(k / 225) : Int) - 7 + 0 := hz
    have e : sdv k 1 = if k % 15 < 14 then k + 1 else 9999 := rfl
    rw [e]
    by_cases q : k % 15 < 14
    · rw [if_pos q, show ixp x y z = k + 1 by unfold ixp; omega]; constructor <;> intro ⟨h1, h2⟩ <;> exact ⟨by omega, h2⟩
    · rw [if_neg q]; constructor <;> intro ⟨h1, h2⟩ <;> omega
  · have hx : x = (↑(k % 15) : Int) - 7 + 0 := hx
    have hy : y = (↑(k / 15 % 15) : Int) - 7 + (-1) := hy
    have hz : z = (↑(k / 225) : Int) - 7 + 0 := hz
    have e : sdv k 2 = if 0 < k / 15 % 15 then k - 15 else 9999 := rfl
    rw [e]
    by_cases q : 0 < k / 15 % 15
    · rw [if_pos q, show ixp x y z = k - 15 by unfold ixp; omega]; constructor <;> intro ⟨h1, h2⟩ <;> exact ⟨by omega, h2⟩
    · rw [if_neg q]; constructor <;> intro ⟨h1, h2⟩ <;> omega
  · have hx : x = (↑(k % 15) : Int) - 7 + 0 := hx
    have hy : y = (↑(k / 15 % 15) : Int) - 7 + 1 := hy
    have hz : z = (↑(k / 225) : Int) - 7 + 0 := hz
    have e : sdv k 3 = if k / 15 % 15 < 14 then k + 15 else 9999 := rfl
    rw [e]
    by_cases q : k / 15 % 15 < 14
    · rw [if_pos q, show ixp x y z = k + 15 by unfold ixp; omega]; constructor <;> intro ⟨h1, h2⟩ <;> exact ⟨by omega, h2⟩
    · rw [if_neg q]; constructor <;> intro ⟨h1, h2⟩ <;> omega
  · have hx : x = (↑(k % 15) : Int) - 7 + 0 := hx
    have hy : y = (↑(k / 15 % 15) : Int) - 7 + 0 := hy
    have hz : z = (↑(k / 225) : Int) - 7 + (-1) := hz
    have e : sdv k 4 = if 0 < k / 225 then k - 225 else 9999 := rfl
    rw [e]
    by_cases q : 0 < k / 225
    · rw [if_pos q, show ixp x y z = k - 225 by unfold ixp; omega]; constructor <;> intro ⟨h1, h2⟩ <;> exact ⟨by omega, h2⟩
    · rw [if_neg q]; constructor <;> intro ⟨h1, h2⟩ <;> omega
  · have hx : x = (↑(k % 15) : Int) - 7 + 0 := hx
    have hy : y = (↑(k / 15 % 15) : Int) - 7 + 0 := hy
    have hz : z = (↑(k / 225) : Int) - 7 + 1 := hz
    have e : sdv k 5 = if k / 225 < 14 then k + 225 else 9999 := rfl
    rw [e]
    by_cases q : k / 225 < 14
    · rw [if_pos q, show ixp x y z = k + 225 by unfold ixp; omega]; constructor <;> intro ⟨h1, h2⟩ <;> exact ⟨by omega, h2⟩
    · rw [if_neg q]; constructor <;> intro ⟨h1, h2⟩ <;> omega
set_option maxHeartbeats 400000 in
set_option maxRecDepth 100000 in
theorem c_Mo_isEnd (l : Launch) (k : Nat)  (hk : k < 3375) : SMi l y_Mo_isEnd b_Mo_isEnd 4 (some .boolean) 0 0 [.int (nI k)] (fun r => r = bI (isE k = true)) := by
  refine st_entz (own := R_Mo) (by decide) rfl (Nat.le_of_ble_eq_true rfl) ?_
  intro p e s m args below meth c Q hC hret ls hl
  have hx := hC.1
  have hb := hC.2.1
  replace hl : lv_has ls 4 [(0, .int (nI k))] := hl
  refine lv_iload_n hx hb d_Mo_isEnd_0 rfl (lv_at hl 0 rfl) ?_
  refine lv_bipush (v := 15) hx hb d_Mo_isEnd_1 (by decide) ?_
  refine iremN hx hb k 15 (by omega) (by decide) (by decide) d_Mo_isEnd_3 ?_
  refine lv_istore_n (lv' := [(1, .int (nI (k % 15))), (0, .int (nI k))]) hx hb d_Mo_isEnd_4 rfl hl (by decide) rfl (fun ls hl => ?_)
  refine lv_iload_n hx hb d_Mo_isEnd_5 rfl (lv_at hl 1 rfl) ?_
  refine lv_bipush (v := 15) hx hb d_Mo_isEnd_6 (by decide) ?_
  refine idivN hx hb k 15 (by omega) (by decide) (by decide) d_Mo_isEnd_8 ?_
  refine lv_bipush (v := 15) hx hb d_Mo_isEnd_9 (by decide) ?_
  refine iremN hx hb (k / 15) 15 (by omega) (by decide) (by decide) d_Mo_isEnd_11 ?_
  refine lv_istore_n (lv' := [(2, .int (nI ((k / 15) % 15))), (1, .int (nI (k % 15))), (0, .int (nI k))]) hx hb d_Mo_isEnd_12 rfl hl (by decide) rfl (fun ls hl => ?_)
  refine lv_iload_n hx hb d_Mo_isEnd_13 rfl (lv_at hl 2 rfl) ?_
  refine lv_sipush (v := 225) hx hb d_Mo_isEnd_14 (by decide) ?_
  refine idivN hx hb k 225 (by omega) (by decide) (by decide) d_Mo_isEnd_17 ?_
  refine lv_istore_n (lv' := [(3, .int (nI (k / 225))), (2, .int (nI ((k / 15) % 15))), (1, .int (nI (k % 15))), (0, .int (nI k))]) hx hb d_Mo_isEnd_18 rfl hl (by decide) rfl (fun ls hl => ?_)
  refine lv_iload_n hx hb d_Mo_isEnd_19 rfl (lv_at hl 2 rfl) ?_
  refine nz_eq hx hb (k % 15) (by omega) d_Mo_isEnd_20 (tgt := 49) (by decide) (fun h1 => ?_) (fun h1 => ?_)
  · skip
    refine lv_iconst (v := 1) hx hb d_Mo_isEnd_49 (by decide) ?_
    refine lv_goto (tgt := 54) hx hb d_Mo_isEnd_50 (by decide) ?_
    exact hret _ _ _ d_Mo_isEnd_54 (by first | exact Or.inl rfl | exact Or.inr rfl | assumption) ((bI_t (by simp [isE]; omega)).symm)
  · skip
    refine lv_iload_n hx hb d_Mo_isEnd_23 rfl (lv_at hl 2 rfl) ?_
    refine lv_bipush (v := 14) hx hb d_Mo_isEnd_24 (by decide) ?_
    refine nc_eq hx hb (k % 15) 14 (by omega) (by omega) d_Mo_isEnd_26 (tgt := 49) (by decide) (fun h2 => ?_) (fun h2 => ?_)
    · skip
      refine lv_iconst (v := 1) hx hb d_Mo_isEnd_49 (by decide) ?_
      refine lv_goto (tgt := 54) hx hb d_Mo_isEnd_50 (by decide) ?_
      exact hret _ _ _ d_Mo_isEnd_54 (by first | exact Or.inl rfl | exact Or.inr rfl | assumption) ((bI_t (by simp [isE]; omega)).symm)
    · skip
      refine lv_iload_n hx hb d_Mo_isEnd_29 rfl (lv_at hl 1 rfl) ?_
      refine nz_eq hx hb ((k / 15) % 15) (by omega) d_Mo_isEnd_30 (tgt := 49) (by decide) (fun h3 => ?_) (fun h3 => ?_)
      · skip
        refine lv_iconst (v := 1) hx hb d_Mo_isEnd_49 (by decide) ?_
        refine lv_goto (tgt := 54) hx hb d_Mo_isEnd_50 (by decide) ?_
        exact hret _ _ _ d_Mo_isEnd_54 (by first | exact Or.inl rfl | exact Or.inr rfl | assumption) ((bI_t (by simp [isE]; omega)).symm)
      · skip
        refine lv_iload_n hx hb d_Mo_isEnd_33 rfl (lv_at hl 1 rfl) ?_
        refine lv_bipush (v := 14) hx hb d_Mo_isEnd_34 (by decide) ?_
        refine nc_eq hx hb ((k / 15) % 15) 14 (by omega) (by omega) d_Mo_isEnd_36 (tgt := 49) (by decide) (fun h4 => ?_) (fun h4 => ?_)
        · skip
          refine lv_iconst (v := 1) hx hb d_Mo_isEnd_49 (by decide) ?_
          refine lv_goto (tgt := 54) hx hb d_Mo_isEnd_50 (by decide) ?_
          exact hret _ _ _ d_Mo_isEnd_54 (by first | exact Or.inl rfl | exact Or.inr rfl | assumption) ((bI_t (by simp [isE]; omega)).symm)
        · skip
          refine lv_iload_n hx hb d_Mo_isEnd_39 rfl (lv_at hl 0 rfl) ?_
          refine nz_eq hx hb (k / 225) (by omega) d_Mo_isEnd_40 (tgt := 49) (by decide) (fun h5 => ?_) (fun h5 => ?_)
          · skip
            refine lv_iconst (v := 1) hx hb d_Mo_isEnd_49 (by decide) ?_
            refine lv_goto (tgt := 54) hx hb d_Mo_isEnd_50 (by decide) ?_
            exact hret _ _ _ d_Mo_isEnd_54 (by first | exact Or.inl rfl | exact Or.inr rfl | assumption) ((bI_t (by simp [isE]; omega)).symm)
          · skip
            refine lv_iload_n hx hb d_Mo_isEnd_43 rfl (lv_at hl 0 rfl) ?_
            refine lv_bipush (v := 14) hx hb d_Mo_isEnd_44 (by decide) ?_
            refine nc_ne hx hb (k / 225) 14 (by omega) (by omega) d_Mo_isEnd_46 (tgt := 53) (by decide) (fun h6 => ?_) (fun h6 => ?_)
            · skip
              refine lv_iconst (v := 0) hx hb d_Mo_isEnd_53 (by decide) ?_
              exact hret _ _ _ d_Mo_isEnd_54 (by first | exact Or.inl rfl | exact Or.inr rfl | assumption) ((bI_f (by simp [isE]; omega)).symm)
            · skip
              refine lv_iconst (v := 1) hx hb d_Mo_isEnd_49 (by decide) ?_
              refine lv_goto (tgt := 54) hx hb d_Mo_isEnd_50 (by decide) ?_
              exact hret _ _ _ d_Mo_isEnd_54 (by first | exact Or.inl rfl | exact Or.inr rfl | assumption) ((bI_t (by simp [isE]; omega)).symm)
set_option maxHeartbeats 400000 in
set_option maxRecDepth 100000 in
theorem c_Mo_sideOf (l : Launch) (k : Nat) (w : Nat)  (hk : k < 3375) (hw : w < 6) : SMi l y_Mo_sideOf b_Mo_sideOf 5 (some .int) 0 0 [.int (nI k), .int (nI w)] (fun r => r = if sdv k w = 9999 then -4 else nI (sdv k w)) := by
  refine st_enti (own := R_Mo) (by decide) rfl (Nat.le_of_ble_eq_true rfl) ?_
  intro p e s m args below meth c Q hC hret ls hl
  have hx := hC.1
  have hb := hC.2.1
  replace hl : lv_has ls 5 [(0, .int (nI k)), (1, .int (nI w))] := hl
  refine lv_iload_n hx hb d_Mo_sideOf_0 rfl (lv_at hl 0 rfl) ?_
  refine lv_bipush (v := 15) hx hb d_Mo_sideOf_1 (by decide) ?_
  refine iremN hx hb k 15 (by omega) (by decide) (by decide) d_Mo_sideOf_3 ?_
  refine lv_istore_n (lv' := [(2, .int (nI (k % 15))), (0, .int (nI k)), (1, .int (nI w))]) hx hb d_Mo_sideOf_4 rfl hl (by decide) rfl (fun ls hl => ?_)
  refine lv_iload_n hx hb d_Mo_sideOf_5 rfl (lv_at hl 1 rfl) ?_
  refine lv_bipush (v := 15) hx hb d_Mo_sideOf_6 (by decide) ?_
  refine idivN hx hb k 15 (by omega) (by decide) (by decide) d_Mo_sideOf_8 ?_
  refine lv_bipush (v := 15) hx hb d_Mo_sideOf_9 (by decide) ?_
  refine iremN hx hb (k / 15) 15 (by omega) (by decide) (by decide) d_Mo_sideOf_11 ?_
  refine lv_istore_n (lv' := [(3, .int (nI ((k / 15) % 15))), (2, .int (nI (k % 15))), (0, .int (nI k)), (1, .int (nI w))]) hx hb d_Mo_sideOf_12 rfl hl (by decide) rfl (fun ls hl => ?_)
  refine lv_iload_n hx hb d_Mo_sideOf_13 rfl (lv_at hl 2 rfl) ?_
  refine lv_sipush (v := 225) hx hb d_Mo_sideOf_14 (by decide) ?_
  refine idivN hx hb k 225 (by omega) (by decide) (by decide) d_Mo_sideOf_17 ?_
  refine lv_istore (lv' := [(4, .int (nI (k / 225))), (3, .int (nI ((k / 15) % 15))), (2, .int (nI (k % 15))), (0, .int (nI k)), (1, .int (nI w))]) hx hb d_Mo_sideOf_18 hl (by decide) rfl (fun ls hl => ?_)
  refine lv_iload_n hx hb d_Mo_sideOf_20 rfl (lv_at hl 4 rfl) ?_
  by_cases h1_0 : w = 0
  · have ev : (nI w).toInt = 0 := by rw [h1_0]; rfl
    refine lv_tableIn (tgt := 56) hx hb d_Mo_sideOf_21 (by rw [ev]; decide) (by rw [ev]; decide) (by rw [ev]; rfl) (by decide) ?_
    refine lv_iload_n hx hb d_Mo_sideOf_56 rfl (lv_at hl 2 rfl) ?_
    refine nz_le hx hb (k % 15) (by omega) d_Mo_sideOf_57 (tgt := 66) (by decide) (fun h2 => ?_) (fun h2 => ?_)
    · skip
      refine lv_bipush (v := (-4)) hx hb d_Mo_sideOf_66 (by decide) ?_
      exact hret _ _ _ d_Mo_sideOf_68 ((sdv_n (by unfold sdv; repeat (first | rw [if_pos (by omega)] | rw [if_neg (by omega)]))))
    · skip
      refine lv_iload_n hx hb d_Mo_sideOf_60 rfl (lv_at hl 3 rfl) ?_
      refine lv_iconst (v := 1) hx hb d_Mo_sideOf_61 (by decide) ?_
      refine lv_isub hx hb d_Mo_sideOf_62 ?_
      refine topi_eq (iI_sub (↑k : Int) 1) ?_
      refine lv_goto (tgt := 68) hx hb d_Mo_sideOf_63 (by decide) ?_
      exact hret _ _ _ d_Mo_sideOf_68 (sdv_s (T := k - 1) (by unfold sdv; repeat (first | rw [if_pos (by omega)] | rw [if_neg (by omega)])) (by omega) (iI_nI (by omega)))
  by_cases h1_1 : w = 1
  · have ev : (nI w).toInt = 1 := by rw [h1_1]; rfl
    refine lv_tableIn (tgt := 69) hx hb d_Mo_sideOf_21 (by rw [ev]; decide) (by rw [ev]; decide) (by rw [ev]; rfl) (by decide) ?_
    refine lv_iload_n hx hb d_Mo_sideOf_69 rfl (lv_at hl 2 rfl) ?_
    refine lv_bipush (v := 14) hx hb d_Mo_sideOf_70 (by decide) ?_
    refine nc_ge hx hb (k % 15) 14 (by omega) (by omega) d_Mo_sideOf_72 (tgt := 81) (by decide) (fun h3 => ?_) (fun h3 => ?_)
    · skip
      refine lv_bipush (v := (-4)) hx hb d_Mo_sideOf_81 (by decide) ?_
      exact hret _ _ _ d_Mo_sideOf_83 ((sdv_n (by unfold sdv; repeat (first | rw [if_pos (by omega)] | rw [if_neg (by omega)]))))
    · skip
      refine lv_iload_n hx hb d_Mo_sideOf_75 rfl (lv_at hl 3 rfl) ?_
      refine lv_iconst (v := 1) hx hb d_Mo_sideOf_76 (by decide) ?_
      refine lv_iadd hx hb d_Mo_sideOf_77 ?_
      refine topi_eq (nI_add k 1) ?_
      refine lv_goto (tgt := 83) hx hb d_Mo_sideOf_78 (by decide) ?_
      exact hret _ _ _ d_Mo_sideOf_83 (sdv_s (T := k + 1) (by unfold sdv; repeat (first | rw [if_pos (by omega)] | rw [if_neg (by omega)])) (by omega) rfl)
  by_cases h1_2 : w = 2
  · have ev : (nI w).toInt = 2 := by rw [h1_2]; rfl
    refine lv_tableIn (tgt := 84) hx hb d_Mo_sideOf_21 (by rw [ev]; decide) (by rw [ev]; decide) (by rw [ev]; rfl) (by decide) ?_
    refine lv_iload_n hx hb d_Mo_sideOf_84 rfl (lv_at hl 1 rfl) ?_
    refine nz_le hx hb ((k / 15) % 15) (by omega) d_Mo_sideOf_85 (tgt := 95) (by decide) (fun h4 => ?_) (fun h4 => ?_)
    · skip
      refine lv_bipush (v := (-4)) hx hb d_Mo_sideOf_95 (by decide) ?_
      exact hret _ _ _ d_Mo_sideOf_97 ((sdv_n (by unfold sdv; repeat (first | rw [if_pos (by omega)] | rw [if_neg (by omega)]))))
    · skip
      refine lv_iload_n hx hb d_Mo_sideOf_88 rfl (lv_at hl 3 rfl) ?_
      refine lv_bipush (v := 15) hx hb d_Mo_sideOf_89 (by decide) ?_
      refine lv_isub hx hb d_Mo_sideOf_91 ?_
      refine topi_eq (iI_sub (↑k : Int) 15) ?_
      refine lv_goto (tgt := 97) hx hb d_Mo_sideOf_92 (by decide) ?_
      exact hret _ _ _ d_Mo_sideOf_97 (sdv_s (T := k - 15) (by unfold sdv; repeat (first | rw [if_pos (by omega)] | rw [if_neg (by omega)])) (by omega) (iI_nI (by omega)))
  by_cases h1_3 : w = 3
  · have ev : (nI w).toInt = 3 := by rw [h1_3]; rfl
    refine lv_tableIn (tgt := 98) hx hb d_Mo_sideOf_21 (by rw [ev]; decide) (by rw [ev]; decide) (by rw [ev]; rfl) (by decide) ?_
    refine lv_iload_n hx hb d_Mo_sideOf_98 rfl (lv_at hl 1 rfl) ?_
    refine lv_bipush (v := 14) hx hb d_Mo_sideOf_99 (by decide) ?_
    refine nc_ge hx hb ((k / 15) % 15) 14 (by omega) (by omega) d_Mo_sideOf_101 (tgt := 111) (by decide) (fun h5 => ?_) (fun h5 => ?_)
    · skip
      refine lv_bipush (v := (-4)) hx hb d_Mo_sideOf_111 (by decide) ?_
      exact hret _ _ _ d_Mo_sideOf_113 ((sdv_n (by unfold sdv; repeat (first | rw [if_pos (by omega)] | rw [if_neg (by omega)]))))
    · skip
      refine lv_iload_n hx hb d_Mo_sideOf_104 rfl (lv_at hl 3 rfl) ?_
      refine lv_bipush (v := 15) hx hb d_Mo_sideOf_105 (by decide) ?_
      refine lv_iadd hx hb d_Mo_sideOf_107 ?_
      refine topi_eq (nI_add k 15) ?_
      refine lv_goto (tgt := 113) hx hb d_Mo_sideOf_108 (by decide) ?_
      exact hret _ _ _ d_Mo_sideOf_113 (sdv_s (T := k + 15) (by unfold sdv; repeat (first | rw [if_pos (by omega)] | rw [if_neg (by omega)])) (by omega) rfl)
  by_cases h1_4 : w = 4
  · have ev : (nI w).toInt = 4 := by rw [h1_4]; rfl
    refine lv_tableIn (tgt := 114) hx hb d_Mo_sideOf_21 (by rw [ev]; decide) (by rw [ev]; decide) (by rw [ev]; rfl) (by decide) ?_
    refine lv_iload hx hb d_Mo_sideOf_114 (lv_at hl 0 rfl) ?_
    refine nz_le hx hb (k / 225) (by omega) d_Mo_sideOf_116 (tgt := 127) (by decide) (fun h6 => ?_) (fun h6 => ?_)
    · skip
      refine lv_bipush (v := (-4)) hx hb d_Mo_sideOf_127 (by decide) ?_
      exact hret _ _ _ d_Mo_sideOf_129 ((sdv_n (by unfold sdv; repeat (first | rw [if_pos (by omega)] | rw [if_neg (by omega)]))))
    · skip
      refine lv_iload_n hx hb d_Mo_sideOf_119 rfl (lv_at hl 3 rfl) ?_
      refine lv_sipush (v := 225) hx hb d_Mo_sideOf_120 (by decide) ?_
      refine lv_isub hx hb d_Mo_sideOf_123 ?_
      refine topi_eq (iI_sub (↑k : Int) 225) ?_
      refine lv_goto (tgt := 129) hx hb d_Mo_sideOf_124 (by decide) ?_
      exact hret _ _ _ d_Mo_sideOf_129 (sdv_s (T := k - 225) (by unfold sdv; repeat (first | rw [if_pos (by omega)] | rw [if_neg (by omega)])) (by omega) (iI_nI (by omega)))
  have ev : (nI w).toInt < 0 ∨ 4 < (nI w).toInt := by
    rw [show (nI w).toInt = (↑w : Int) from iI_toInt (z := (↑w : Int)) (by omega) (by omega)]
    omega
  refine lv_tableOut (tgt := 130) hx hb d_Mo_sideOf_21 ev (by decide) ?_
  refine lv_iload hx hb d_Mo_sideOf_130 (lv_at hl 0 rfl) ?_
  refine lv_bipush (v := 14) hx hb d_Mo_sideOf_132 (by decide) ?_
  refine nc_ge hx hb (k / 225) 14 (by omega) (by omega) d_Mo_sideOf_134 (tgt := 145) (by decide) (fun h7 => ?_) (fun h7 => ?_)
  · skip
    refine lv_bipush (v := (-4)) hx hb d_Mo_sideOf_145 (by decide) ?_
    exact hret _ _ _ d_Mo_sideOf_147 ((sdv_n (by unfold sdv; repeat (first | rw [if_pos (by omega)] | rw [if_neg (by omega)]))))
  · skip
    refine lv_iload_n hx hb d_Mo_sideOf_137 rfl (lv_at hl 3 rfl) ?_
    refine lv_sipush (v := 225) hx hb d_Mo_sideOf_138 (by decide) ?_
    refine lv_iadd hx hb d_Mo_sideOf_141 ?_
    refine topi_eq (nI_add k 225) ?_
    refine lv_goto (tgt := 147) hx hb d_Mo_sideOf_142 (by decide) ?_
    exact hret _ _ _ d_Mo_sideOf_147 (sdv_s (T := k + 225) (by unfold sdv; repeat (first | rw [if_pos (by omega)] | rw [if_neg (by omega)])) (by omega) rfl)
set_option maxHeartbeats 400000 in
set_option maxRecDepth 100000 in
theorem c_Mo_has (l : Launch) (D : va_G) (cT : Nat → ClassId) (ad : Nat → Nat) (I : Nat → Int32) (J : Nat → Int64) (a : Nat → Nat → Int32) (g : Nat → Nat → Int64) (x : Int) (y : Int) (z : Int)  (h01 : ∀ j, j < 3375 → a 33 j = 0 ∨ a 33 j = 1) (hb1 : -20 ≤ x ∧ x ≤ 20) (hb2 : -20 ≤ y ∧ y ≤ 20) (hb3 : -20 ≤ z ∧ z ≤ 20) : MRi l D cT ad y_Mo_has b_Mo_has 4 (some .boolean) 2 47 [.int (iI x), .int (iI y), .int (iI z)] I J a g (fun r => r = bI ((-7 ≤ x ∧ x ≤ 7 ∧ -7 ≤ y ∧ y ≤ 7 ∧ -7 ≤ z ∧ z ≤ 7) ∧ a 33 (ixp x y z) = 1)) := by
  refine mr_entz (by decide) rfl (Nat.le_of_ble_eq_true rfl) ?_
  intro p e s m args below meth c Q hC hK hM hret ls hl
  have hx := hC.1
  have hb := hC.2.1
  replace hl : lv_has ls 4 [(0, .ref (ad 46)), (1, .int (iI x)), (2, .int (iI y)), (3, .int (iI z))] := hl
  refine lv_iload_n hx hb d_Mo_has_0 rfl (lv_at hl 1 rfl) ?_
  refine lv_iload_n hx hb d_Mo_has_1 rfl (lv_at hl 2 rfl) ?_
  refine lv_iload_n hx hb d_Mo_has_2 rfl (lv_at hl 3 rfl) ?_
  refine st_calli (np := 3) hC (c_Mo_isPoint l (iI x) (iI y) (iI z) x y z (iI_toInt (z := x) (by omega) (by omega)) (iI_toInt (z := y) (by omega) (by omega)) (iI_toInt (z := z) (by omega) (by omega))) ⟨wl_Mo_221, wt_Mo_isPoint, wc_Mo_isPoint, wn_Mo⟩ ⟨by decide, by decide, by decide +kernel⟩ ⟨Nat.le_of_ble_eq_true rfl, Nat.le_of_ble_eq_true rfl⟩ hl.1 rfl (rest := []) rfl (Nat.le_of_ble_eq_true rfl) ⟨Nat.zero_le _, Nat.zero_le _⟩ d_Mo_has_3 (fun rr hrr => ?_)
  subst hrr
  refine bz_eq (tgt := 27) hx hb d_Mo_has_6 (by decide) (fun h1 => ?_) (fun h1 => ?_)
  · skip
    refine lv_iconst (v := 0) hx hb d_Mo_has_27 (by decide) ?_
    exact hret _ _ _ d_Mo_has_28 (by first | exact Or.inl rfl | exact Or.inr rfl | assumption) ((bI_f (fun q => h1 q.1)).symm)
  · skip
    refine lv_aload_n hx hb d_Mo_has_9 rfl (lv_at hl 0 rfl) ?_
    refine mo_getr hC hK hM 33 wf_Mo_59 rfl (by decide) (by decide) d_Mo_has_10 ?_
    refine lv_iload_n hx hb d_Mo_has_13 rfl (lv_at hl 1 rfl) ?_
    refine lv_iload_n hx hb d_Mo_has_14 rfl (lv_at hl 2 rfl) ?_
    refine lv_iload_n hx hb d_Mo_has_15 rfl (lv_at hl 3 rfl) ?_
    refine st_calli (np := 3) hC (c_Mo_indexOf l x y z) ⟨wl_Mo_256, wt_Mo_indexOf, wc_Mo_indexOf, wn_Mo⟩ ⟨by decide, by decide, by decide +kernel⟩ ⟨Nat.le_of_ble_eq_true rfl, Nat.le_of_ble_eq_true rfl⟩ hl.1 rfl (rest := [.ref (ad 33)]) rfl (Nat.le_of_ble_eq_true rfl) ⟨Nat.zero_le _, Nat.zero_le _⟩ d_Mo_has_16 (fun rr hrr => ?_)
    subst hrr
    refine mo_zaldN hC hK hM 33 (ixp x y z) (by decide) rfl (n := 3375) rfl (by decide) (i := iI (15 * (15 * (z + 7) + y + 7) + x + 7)) ((ixp_eq h1).1) ((ixp_eq h1).2) (v := (a 33) (ixp x y z)) (rfl) d_Mo_has_19 ?_
    refine lv_if_eq (tgt := 27) hx hb d_Mo_has_20 (by decide) (fun h2 => ?_) (fun h2 => ?_)
    · skip
      refine lv_iconst (v := 0) hx hb d_Mo_has_27 (by decide) ?_
      exact hret _ _ _ d_Mo_has_28 (by first | exact Or.inl rfl | exact Or.inr rfl | assumption) ((bI_f (fun q => by rw [q.2] at h2; cases h2)).symm)
    · skip
      refine lv_iconst (v := 1) hx hb d_Mo_has_23 (by decide) ?_
      refine lv_goto (tgt := 28) hx hb d_Mo_has_24 (by decide) ?_
      exact hret _ _ _ d_Mo_has_28 (by first | exact Or.inl rfl | exact Or.inr rfl | assumption) ((bI_t ⟨by omega, (h01 _ (ixp_eq h1).2).resolve_left h2⟩).symm)
set_option maxHeartbeats 400000 in
set_option maxRecDepth 100000 in
theorem c_Mo_hasSide (l : Launch) (D : va_G) (cT : Nat → ClassId) (ad : Nat → Nat) (I : Nat → Int32) (J : Nat → Int64) (a : Nat → Nat → Int32) (g : Nat → Nat → Int64) (k : Nat) (w : Nat)  (h01 : ∀ j, j < 3375 → a 33 j = 0 ∨ a 33 j = 1) (hk : k < 3375) (hw : w < 6) : MRi l D cT ad y_Mo_hasSide b_Mo_hasSide 5 (some .boolean) 3 70 [.int (nI k), .int (nI w)] I J a g (fun r => r = bI (sdv k w < 3375 ∧ a 33 (sdv k w) = 1)) := by
  refine mr_entz (by decide) rfl (Nat.le_of_ble_eq_true rfl) ?_
  intro p e s m args below meth c Q hC hK hM hret ls hl
  have hx := hC.1
  have hb := hC.2.1
  replace hl : lv_has ls 5 [(0, .ref (ad 46)), (1, .int (nI k)), (2, .int (nI w))] := hl
  refine lv_iload_n hx hb d_Mo_hasSide_0 rfl (lv_at hl 2 rfl) ?_
  refine lv_iconst (v := 1) hx hb d_Mo_hasSide_1 (by decide) ?_
  refine lv_iand hx hb d_Mo_hasSide_2 ?_
  refine topi_eq (and_m w (by omega) 1 rfl) ?_
  have hJ1 : ∀ (ls : Array Slot), lv_has ls 5 [(0, .ref (ad 46)), (1, .int (nI k)), (2, .int (nI w))] → W p l e (rmOf 3 70) s m args below meth c s.heap [] 0 0 Q (F0 m 11 ls [.int (iI (if (w % 2) = 0 then (-1) else 1))]) := ?_
  · skip
    refine nz_ne hx hb (w % 2) (by omega) d_Mo_hasSide_3 (tgt := 10) (by decide) (fun h2 => ?_) (fun h2 => ?_)
    · skip
      refine lv_iconst (v := 1) hx hb d_Mo_hasSide_10 (by decide) ?_
      refine topi_eq (show (1 : Int32) = iI (if (w % 2) = 0 then (-1) else 1) by first | rfl | exact (bI_t (by assumption)).symm | exact (bI_f (by assumption)).symm | exact (bI_f (fun z => z (by assumption))).symm | (rw [if_neg h2]; done) | (rw [if_neg h2]; rfl) | (simp only [if_neg h2]; done) | (simp only [if_neg h2]; rfl)) ?_
      exact hJ1 _ (by first | exact lv_sub hl [0, 1, 2] rfl | (simp only [if_neg h2]; exact lv_sub hl [0, 1, 2] rfl))
    · skip
      refine lv_iconst (v := (-1)) hx hb d_Mo_hasSide_6 (by decide) ?_
      refine lv_goto (tgt := 11) hx hb d_Mo_hasSide_7 (by decide) ?_
      refine topi_eq (show ((-1) : Int32) = iI (if (w % 2) = 0 then (-1) else 1) by first | rfl | exact (bI_t (by assumption)).symm | exact (bI_f (by assumption)).symm | exact (bI_f (fun z => z (by assumption))).symm | (rw [if_pos h2]; done) | (rw [if_pos h2]; rfl) | (simp only [if_pos h2]; done) | (simp only [if_pos h2]; rfl)) ?_
      exact hJ1 _ (by first | exact lv_sub hl [0, 1, 2] rfl | (simp only [if_pos h2]; exact lv_sub hl [0, 1, 2] rfl))
  intro ls hl
  refine lv_istore_n (lv' := [(3, .int (iI (if (w % 2) = 0 then (-1) else 1))), (0, .ref (ad 46)), (1, .int (nI k)), (2, .int (nI w))]) hx hb d_Mo_hasSide_11 rfl hl (by decide) rfl (fun ls hl => ?_)
  refine lv_iload_n hx hb d_Mo_hasSide_12 rfl (lv_at hl 3 rfl) ?_
  refine lv_iconst (v := 2) hx hb d_Mo_hasSide_13 (by decide) ?_
  refine idivN hx hb w 2 (by omega) (by decide) (by decide) d_Mo_hasSide_14 ?_
  refine lv_istore (lv' := [(4, .int (nI (w / 2))), (3, .int (iI (if (w % 2) = 0 then (-1) else 1))), (0, .ref (ad 46)), (1, .int (nI k)), (2, .int (nI w))]) hx hb d_Mo_hasSide_15 hl (by decide) rfl (fun ls hl => ?_)
  refine lv_aload_n hx hb d_Mo_hasSide_17 rfl (lv_at hl 2 rfl) ?_
  refine lv_iload_n hx hb d_Mo_hasSide_18 rfl (lv_at hl 3 rfl) ?_
  refine lv_bipush (v := 15) hx hb d_Mo_hasSide_19 (by decide) ?_
  refine iremN hx hb k 15 (by omega) (by decide) (by decide) d_Mo_hasSide_21 ?_
  refine lv_bipush (v := 7) hx hb d_Mo_hasSide_22 (by decide) ?_
  refine lv_isub hx hb d_Mo_hasSide_24 ?_
  refine topi_eq (iI_sub (↑(k % 15) : Int) 7) ?_
  refine lv_iload hx hb d_Mo_hasSide_25 (lv_at hl 0 rfl) ?_
  have hJ3 : ∀ (ls : Array Slot), lv_has ls 5 [(0, .ref (ad 46)), (1, .int (nI k)), (2, .int (nI w)), (3, .int (iI (if (w % 2) = 0 then (-1) else 1))), (4, .int (nI (w / 2)))] → W p l e (rmOf 3 70) s m args below meth c s.heap [] 0 0 Q (F0 m 35 ls [.int (iI (if (w / 2) = 0 then if (w % 2) = 0 then (-1) else 1 else 0)), .int (iI ((↑(k % 15) : Int) - 7)), .ref (ad 46)]) := ?_
  · skip
    refine nz_ne hx hb (w / 2) (by omega) d_Mo_hasSide_27 (tgt := 34) (by decide) (fun h4 => ?_) (fun h4 => ?_)
    · skip
      refine lv_iconst (v := 0) hx hb d_Mo_hasSide_34 (by decide) ?_
      refine topi_eq (show (0 : Int32) = iI (if (w / 2) = 0 then if (w % 2) = 0 then (-1) else 1 else 0) by first | rfl | exact (bI_t (by assumption)).symm | exact (bI_f (by assumption)).symm | exact (bI_f (fun z => z (by assumption))).symm | (rw [if_neg h4]; done) | (rw [if_neg h4]; rfl) | (simp only [if_neg h4]; done) | (simp only [if_neg h4]; rfl)) ?_
      exact hJ3 _ (by first | exact lv_sub hl [2, 3, 4, 1, 0] rfl | (simp only [if_neg h4]; exact lv_sub hl [2, 3, 4, 1, 0] rfl))
    · skip
      refine lv_iload_n hx hb d_Mo_hasSide_30 rfl (lv_at hl 1 rfl) ?_
      refine lv_goto (tgt := 35) hx hb d_Mo_hasSide_31 (by decide) ?_
      refine topi_eq (show (iI (if (w % 2) = 0 then (-1) else 1) : Int32) = iI (if (w / 2) = 0 then if (w % 2) = 0 then (-1) else 1 else 0) by first | rfl | exact (bI_t (by assumption)).symm | exact (bI_f (by assumption)).symm | exact (bI_f (fun z => z (by assumption))).symm | (rw [if_pos h4]; done) | (rw [if_pos h4]; rfl) | (simp only [if_pos h4]; done) | (simp only [if_pos h4]; rfl)) ?_
      exact hJ3 _ (by first | exact lv_sub hl [2, 3, 4, 1, 0] rfl | (simp only [if_pos h4]; exact lv_sub hl [2, 3, 4, 1, 0] rfl))
  intro ls hl
  refine lv_iadd hx hb d_Mo_hasSide_35 ?_
  refine topi_eq (iI_add ((↑(k % 15) : Int) - 7) (if (w / 2) = 0 then if (w % 2) = 0 then (-1) else 1 else 0)) ?_
  refine lv_iload_n hx hb d_Mo_hasSide_36 rfl (lv_at hl 1 rfl) ?_
  refine lv_bipush (v := 15) hx hb d_Mo_hasSide_37 (by decide) ?_
  refine idivN hx hb k 15 (by omega) (by decide) (by decide) d_Mo_hasSide_39 ?_
  refine lv_bipush (v := 15) hx hb d_Mo_hasSide_40 (by decide) ?_
  refine iremN hx hb (k / 15) 15 (by omega) (by decide) (by decide) d_Mo_hasSide_42 ?_
  refine lv_bipush (v := 7) hx hb d_Mo_hasSide_43 (by decide) ?_
  refine lv_isub hx hb d_Mo_hasSide_45 ?_
  refine topi_eq (iI_sub (↑((k / 15) % 15) : Int) 7) ?_
  refine lv_iload hx hb d_Mo_hasSide_46 (lv_at hl 4 rfl) ?_
  refine lv_iconst (v := 1) hx hb d_Mo_hasSide_48 (by decide) ?_
  have hJ5 : ∀ (ls : Array Slot), lv_has ls 5 [(0, .ref (ad 46)), (1, .int (nI k)), (2, .int (nI w)), (3, .int (iI (if (w % 2) = 0 then (-1) else 1))), (4, .int (nI (w / 2)))] → W p l e (rmOf 3 70) s m args below meth c s.heap [] 0 0 Q (F0 m 57 ls [.int (iI (if (w / 2) = 1 then if (w % 2) = 0 then (-1) else 1 else 0)), .int (iI ((↑((k / 15) % 15) : Int) - 7)), .int (iI (((↑(k % 15) : Int) - 7) + (if (w / 2) = 0 then if (w % 2) = 0 then (-1) else 1 else 0))), .ref (ad 46)]) := ?_
  · skip
    refine nc_ne hx hb (w / 2) 1 (by omega) (by omega) d_Mo_hasSide_49 (tgt := 56) (by decide) (fun h6 => ?_) (fun h6 => ?_)
    · skip
      refine lv_iconst (v := 0) hx hb d_Mo_hasSide_56 (by decide) ?_
      refine topi_eq (show (0 : Int32) = iI (if (w / 2) = 1 then if (w % 2) = 0 then (-1) else 1 else 0) by first | rfl | exact (bI_t (by assumption)).symm | exact (bI_f (by assumption)).symm | exact (bI_f (fun z => z (by assumption))).symm | (rw [if_neg h6]; done) | (rw [if_neg h6]; rfl) | (simp only [if_neg h6]; done) | (simp only [if_neg h6]; rfl)) ?_
      exact hJ5 _ (by first | exact lv_sub hl [0, 1, 2, 3, 4] rfl | (simp only [if_neg h6]; exact lv_sub hl [0, 1, 2, 3, 4] rfl))
    · skip
      refine lv_iload_n hx hb d_Mo_hasSide_52 rfl (lv_at hl 3 rfl) ?_
      refine lv_goto (tgt := 57) hx hb d_Mo_hasSide_53 (by decide) ?_
      refine topi_eq (show (iI (if (w % 2) = 0 then (-1) else 1) : Int32) = iI (if (w / 2) = 1 then if (w % 2) = 0 then (-1) else 1 else 0) by first | rfl | exact (bI_t (by assumption)).symm | exact (bI_f (by assumption)).symm | exact (bI_f (fun z => z (by assumption))).symm | (rw [if_pos h6]; done) | (rw [if_pos h6]; rfl) | (simp only [if_pos h6]; done) | (simp only [if_pos h6]; rfl)) ?_
      exact hJ5 _ (by first | exact lv_sub hl [0, 1, 2, 3, 4] rfl | (simp only [if_pos h6]; exact lv_sub hl [0, 1, 2, 3, 4] rfl))
  intro ls hl
  refine lv_iadd hx hb d_Mo_hasSide_57 ?_
  refine topi_eq (iI_add ((↑((k / 15) % 15) : Int) - 7) (if (w / 2) = 1 then if (w % 2) = 0 then (-1) else 1 else 0)) ?_
  refine lv_iload_n hx hb d_Mo_hasSide_58 rfl (lv_at hl 1 rfl) ?_
  refine lv_sipush (v := 225) hx hb d_Mo_hasSide_59 (by decide) ?_
  refine idivN hx hb k 225 (by omega) (by decide) (by decide) d_Mo_hasSide_62 ?_
  refine lv_bipush (v := 7) hx hb d_Mo_hasSide_63 (by decide) ?_
  refine lv_isub hx hb d_Mo_hasSide_65 ?_
  refine topi_eq (iI_sub (↑(k / 225) : Int) 7) ?_
  refine lv_iload hx hb d_Mo_hasSide_66 (lv_at hl 4 rfl) ?_
  refine lv_iconst (v := 2) hx hb d_Mo_hasSide_68 (by decide) ?_
  have hJ7 : ∀ (ls : Array Slot), lv_has ls 5 [(0, .ref (ad 46)), (1, .int (nI k)), (2, .int (nI w)), (3, .int (iI (if (w % 2) = 0 then (-1) else 1))), (4, .int (nI (w / 2)))] → W p l e (rmOf 3 70) s m args below meth c s.heap [] 0 0 Q (F0 m 77 ls [.int (iI (if (w / 2) = 2 then if (w % 2) = 0 then (-1) else 1 else 0)), .int (iI ((↑(k / 225) : Int) - 7)), .int (iI (((↑((k / 15) % 15) : Int) - 7) + (if (w / 2) = 1 then if (w % 2) = 0 then (-1) else 1 else 0))), .int (iI (((↑(k % 15) : Int) - 7) + (if (w / 2) = 0 then if (w % 2) = 0 then (-1) else 1 else 0))), .ref (ad 46)]) := ?_
  · skip
    refine nc_ne hx hb (w / 2) 2 (by omega) (by omega) d_Mo_hasSide_69 (tgt := 76) (by decide) (fun h8 => ?_) (fun h8 => ?_)
    · skip
      refine lv_iconst (v := 0) hx hb d_Mo_hasSide_76 (by decide) ?_
      refine topi_eq (show (0 : Int32) = iI (if (w / 2) = 2 then if (w % 2) = 0 then (-1) else 1 else 0) by first | rfl | exact (bI_t (by assumption)).symm | exact (bI_f (by assumption)).symm | exact (bI_f (fun z => z (by assumption))).symm | (rw [if_neg h8]; done) | (rw [if_neg h8]; rfl) | (simp only [if_neg h8]; done) | (simp only [if_neg h8]; rfl)) ?_
      exact hJ7 _ (by first | exact lv_sub hl [0, 1, 2, 3, 4] rfl | (simp only [if_neg h8]; exact lv_sub hl [0, 1, 2, 3, 4] rfl))
    · skip
      refine lv_iload_n hx hb d_Mo_hasSide_72 rfl (lv_at hl 3 rfl) ?_
      refine lv_goto (tgt := 77) hx hb d_Mo_hasSide_73 (by decide) ?_
      refine topi_eq (show (iI (if (w % 2) = 0 then (-1) else 1) : Int32) = iI (if (w / 2) = 2 then if (w % 2) = 0 then (-1) else 1 else 0) by first | rfl | exact (bI_t (by assumption)).symm | exact (bI_f (by assumption)).symm | exact (bI_f (fun z => z (by assumption))).symm | (rw [if_pos h8]; done) | (rw [if_pos h8]; rfl) | (simp only [if_pos h8]; done) | (simp only [if_pos h8]; rfl)) ?_
      exact hJ7 _ (by first | exact lv_sub hl [0, 1, 2, 3, 4] rfl | (simp only [if_pos h8]; exact lv_sub hl [0, 1, 2, 3, 4] rfl))
  intro ls hl
  refine lv_iadd hx hb d_Mo_hasSide_77 ?_
  refine topi_eq (iI_add ((↑(k / 225) : Int) - 7) (if (w / 2) = 2 then if (w % 2) = 0 then (-1) else 1 else 0)) ?_
  refine mo_callr (np := 3) hC hK hM (c_Mo_has l D cT ad I J a g (((↑(k % 15) : Int) - 7) + (if (w / 2) = 0 then if (w % 2) = 0 then (-1) else 1 else 0)) (((↑((k / 15) % 15) : Int) - 7) + (if (w / 2) = 1 then if (w % 2) = 0 then (-1) else 1 else 0)) (((↑(k / 225) : Int) - 7) + (if (w / 2) = 2 then if (w % 2) = 0 then (-1) else 1 else 0)) h01 (by split <;> (try split) <;> omega) (by split <;> (try split) <;> omega) (by split <;> (try split) <;> omega)) rfl ⟨wl_Mo_260, wi_Mo_has, ws_Mo_has, wc_Mo_has, wn_Mo⟩ ⟨by decide, by decide, by decide +kernel⟩ ⟨Nat.le_of_ble_eq_true rfl, Nat.le_of_ble_eq_true rfl⟩ hl.1 rfl (rest := []) rfl (Nat.le_of_ble_eq_true rfl) ⟨Nat.zero_le _, Nat.zero_le _⟩ d_Mo_hasSide_78 (fun rr hrr => ?_)
  subst hrr
  exact hret _ _ _ d_Mo_hasSide_81 (bI_01) (bI_c (hsd_eq hk hw _ _ _ rfl rfl rfl))
