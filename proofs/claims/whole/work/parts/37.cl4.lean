/-! the class: values and bounds of forms, rule by rule -/
theorem sqB_L (f t m : Int) : sqB (f - m) (t - m) 0 = sqL f t m := by
  unfold sqB sqL mnI
  rw [if_pos rfl]
  generalize (f - m) * (f - m) = p
  generalize (t - m) * (t - m) = q
  by_cases h : f ≤ m ∧ m ≤ t
  · rw [if_pos h, if_pos (by omega)]
  · rw [if_neg h, if_neg (by omega)]
    (repeat' split) <;> omega
theorem sqB_H (f t m : Int) {h : Int32} (hh : ¬ h = 0) : sqB (f - m) (t - m) h = sqH f t m := by
  unfold sqB sqH mx
  rw [if_neg hh]
  generalize (f - m) * (f - m) = p
  generalize (t - m) * (t - m) = q
  (repeat' split) <;> omega
theorem pr_mn {x y c : Int} (h : x ≤ y) : mnI (c * x) (c * y) = prL x y c ∧ mx (c * x) (c * y) = prH x y c := by
  unfold mnI mx prL prH
  by_cases q : c < 0
  · have h2 : c * y ≤ c * x := Int.mul_le_mul_of_nonpos_left (by omega) h
    rw [if_pos q, if_pos q]
    refine ⟨?_, ?_⟩ <;> split <;> omega
  · have h2 : c * x ≤ c * y := Int.mul_le_mul_of_nonneg_left h (by omega)
    rw [if_neg q, if_neg q]
    refine ⟨?_, ?_⟩ <;> split <;> omega
def BX6 (B : Nat → Int) : Prop := B 0 ≤ B 1 ∧ B 2 ≤ B 3 ∧ B 4 ≤ B 5
def lh (h : Int32) (v : Int × Int) : Int := if h = 0 then v.1 else v.2
def jnd (kd : Nat) (x y : Int) : Int := if kd = 3 then mnI x y else mx x (if kd = 5 then -y else y)
theorem jn_L {kd : Nat} {p q : Int × Int} : jnd kd p.1 (if kd = 5 then q.2 else q.1) = (cmb kd p q).1 := by
  unfold jnd cmb mnI mx
  by_cases h3 : kd = 3
  · simp only [if_pos h3, show ¬ kd = 5 by omega, if_false]
    (repeat' split) <;> omega
  · by_cases h5 : kd = 5
    · simp only [if_neg h3, if_pos h5]
    · simp only [if_neg h3, if_neg h5]
theorem jn_H {kd : Nat} {p q : Int × Int} : jnd kd p.2 (if kd = 5 then q.1 else q.2) = (cmb kd p q).2 := by
  unfold jnd cmb mnI mx
  by_cases h3 : kd = 3
  · simp only [if_pos h3, show ¬ kd = 5 by omega, if_false]
    (repeat' split) <;> omega
  · by_cases h5 : kd = 5
    · simp only [if_neg h3, if_pos h5]
    · simp only [if_neg h3, if_neg h5]
theorem lf0_V {nb B : Nat → Int} (h : PT6 B) : (B 0 - nb 0) * (B 0 - nb 0) + (B 2 - nb 1) * (B 2 - nb 1) + (B 4 - nb 2) * (B 4 - nb 2) - nb 3 * nb 3 = lfL 0 nb B := by
  unfold lfL
  rw [if_pos rfl, ← h.1, ← h.2.1, ← h.2.2, (sq_pt _ _).1, (sq_pt _ _).1, (sq_pt _ _).1, Int.zero_add]
theorem lf1_V {nb B : Nat → Int} (h : PT6 B) : mx (mx (nb 0 - B 0) (B 0 - nb 3)) (mx (mx (nb 1 - B 2) (B 2 - nb 4)) (mx (nb 2 - B 4) (B 4 - nb 5))) - 1 = lfL 1 nb B := by
  unfold lfL
  rw [if_neg (by decide), if_pos rfl, ← h.1, ← h.2.1, ← h.2.2]
  simp only [mx_as]
theorem lf2_V {nb B : Nat → Int} (h : PT6 B) : nb 0 * B 0 + nb 1 * B 2 + nb 2 * B 4 - nb 3 = lfL 2 nb B := by
  unfold lfL
  rw [if_neg (by decide), if_neg (by decide), ← h.1, ← h.2.1, ← h.2.2, (pr_pt _ _).1, (pr_pt _ _).1, (pr_pt _ _).1, Int.zero_add]
theorem lf0_B {nb B : Nat → Int} (h : Int32) : sqB (B 0 - nb 0) (B 1 - nb 0) h + sqB (B 2 - nb 1) (B 3 - nb 1) h + sqB (B 4 - nb 2) (B 5 - nb 2) h - nb 3 * nb 3 = lh h (lfL 0 nb B, lfH 0 nb B) := by
  unfold lh
  by_cases q : h = 0
  · rw [if_pos q, q, sqB_L, sqB_L, sqB_L]; unfold lfL; rw [if_pos rfl, Int.zero_add]
  · rw [if_neg q, sqB_H _ _ _ q, sqB_H _ _ _ q, sqB_H _ _ _ q]; unfold lfH; rw [if_pos rfl, Int.zero_add]
theorem lf1_BL {nb B : Nat → Int} : mx (mx (nb 0 - B 1) (B 0 - nb 3)) (mx (mx (nb 1 - B 3) (B 2 - nb 4)) (mx (nb 2 - B 5) (B 4 - nb 5))) - 1 = lfL 1 nb B := by
  unfold lfL
  rw [if_neg (by decide), if_pos rfl]
  simp only [mx_as]
theorem lf1_BH {nb B : Nat → Int} : mx (mx (nb 0 - B 0) (B 1 - nb 3)) (mx (mx (nb 1 - B 2) (B 3 - nb 4)) (mx (nb 2 - B 4) (B 5 - nb 5))) - 1 = lfH 1 nb B := by
  unfold lfH
  rw [if_neg (by decide), if_pos rfl]
  simp only [mx_as]
theorem lf2_BL {nb B : Nat → Int} (h : BX6 B) : mnI (nb 0 * B 0) (nb 0 * B 1) + mnI (nb 1 * B 2) (nb 1 * B 3) + mnI (nb 2 * B 4) (nb 2 * B 5) - nb 3 = lfL 2 nb B := by
  unfold lfL
  rw [if_neg (by decide), if_neg (by decide), (pr_mn h.1).1, (pr_mn h.2.1).1, (pr_mn h.2.2).1, Int.zero_add]
theorem lf2_BH {nb B : Nat → Int} (h : BX6 B) : mx (nb 0 * B 0) (nb 0 * B 1) + mx (nb 1 * B 2) (nb 1 * B 3) + mx (nb 2 * B 4) (nb 2 * B 5) - nb 3 = lfH 2 nb B := by
  unfold lfH
  rw [if_neg (by decide), if_neg (by decide), (pr_mn h.1).2, (pr_mn h.2.1).2, (pr_mn h.2.2).2, Int.zero_add]
set_option maxHeartbeats 400000 in
set_option maxRecDepth 100000 in
theorem c_Ba_valueAt (l : Launch) (D : va_G) (cT : Nat → ClassId) (w : va_W)  (nb B : Nat → Int) (d i r : Nat) (he : w[i]? = some (r, .inr (0, [.int (iI (nb 0)), .int (iI (nb 1)), .int (iI (nb 2)), .int (iI (nb 3))]))) (hpt : PT6 B) : RDi l D cT w y_Ba_valueAt b_Ba_valueAt 4 (some .int) (3 + 2 * d) (60 + 70 * d) [.ref r, .int (iI (B 0)), .int (iI (B 2)), .int (iI (B 4))] (fun v => v = iI (lfL 0 nb B)) := by
  refine rd_enti (own := R_Ba) (by decide) rfl (Nat.le_of_ble_eq_true rfl) ?_
  intro p e s m args below meth c Q hC hK hP hret ls hl
  have hx := hC.1
  have hb := hC.2.1
  replace hl : lv_has ls 4 [(0, .ref r), (1, .int (iI (B 0))), (2, .int (iI (B 2))), (3, .int (iI (B 4)))] := hl
  refine lv_iload_n hx hb d_Ba_valueAt_0 rfl (lv_at hl 1 rfl) ?_
  refine lv_aload_n hx hb d_Ba_valueAt_1 rfl (lv_at hl 0 rfl) ?_
  refine rd_get hC in_Ba hK hP _ (he) rfl 0 (by decide) wf_Ba_7 rfl (v := .int (iI (nb 0))) (rfl) d_Ba_valueAt_2 ?_
  refine lv_isub hx hb d_Ba_valueAt_5 ?_
  refine topi_eq (iI_sub (B 0) (nb 0)) ?_
  refine lv_iload_n hx hb d_Ba_valueAt_6 rfl (lv_at hl 1 rfl) ?_
  refine lv_aload_n hx hb d_Ba_valueAt_7 rfl (lv_at hl 0 rfl) ?_
  refine rd_get hC in_Ba hK hP _ (he) rfl 0 (by decide) wf_Ba_7 rfl (v := .int (iI (nb 0))) (rfl) d_Ba_valueAt_8 ?_
  refine lv_isub hx hb d_Ba_valueAt_11 ?_
  refine topi_eq (iI_sub (B 0) (nb 0)) ?_
  refine lv_imul hx hb d_Ba_valueAt_12 ?_
  refine topi_eq (iI_mul ((B 0) - (nb 0)) ((B 0) - (nb 0))) ?_
  refine lv_iload_n hx hb d_Ba_valueAt_13 rfl (lv_at hl 2 rfl) ?_
  refine lv_aload_n hx hb d_Ba_valueAt_14 rfl (lv_at hl 0 rfl) ?_
  refine rd_get hC in_Ba hK hP _ (he) rfl 1 (by decide) wf_Ba_13 rfl (v := .int (iI (nb 1))) (rfl) d_Ba_valueAt_15 ?_
  refine lv_isub hx hb d_Ba_valueAt_18 ?_
  refine topi_eq (iI_sub (B 2) (nb 1)) ?_
  refine lv_iload_n hx hb d_Ba_valueAt_19 rfl (lv_at hl 2 rfl) ?_
  refine lv_aload_n hx hb d_Ba_valueAt_20 rfl (lv_at hl 0 rfl) ?_
  refine rd_get hC in_Ba hK hP _ (he) rfl 1 (by decide) wf_Ba_13 rfl (v := .int (iI (nb 1))) (rfl) d_Ba_valueAt_21 ?_
  refine lv_isub hx hb d_Ba_valueAt_24 ?_
  refine topi_eq (iI_sub (B 2) (nb 1)) ?_
  refine lv_imul hx hb d_Ba_valueAt_25 ?_
  refine topi_eq (iI_mul ((B 2) - (nb 1)) ((B 2) - (nb 1))) ?_
  refine lv_iadd hx hb d_Ba_valueAt_26 ?_
  refine topi_eq (iI_add (((B 0) - (nb 0)) * ((B 0) - (nb 0))) (((B 2) - (nb 1)) * ((B 2) - (nb 1)))) ?_
  refine lv_iload_n hx hb d_Ba_valueAt_27 rfl (lv_at hl 3 rfl) ?_
  refine lv_aload_n hx hb d_Ba_valueAt_28 rfl (lv_at hl 0 rfl) ?_
  refine rd_get hC in_Ba hK hP _ (he) rfl 2 (by decide) wf_Ba_16 rfl (v := .int (iI (nb 2))) (rfl) d_Ba_valueAt_29 ?_
  refine lv_isub hx hb d_Ba_valueAt_32 ?_
  refine topi_eq (iI_sub (B 4) (nb 2)) ?_
  refine lv_iload_n hx hb d_Ba_valueAt_33 rfl (lv_at hl 3 rfl) ?_
  refine lv_aload_n hx hb d_Ba_valueAt_34 rfl (lv_at hl 0 rfl) ?_
  refine rd_get hC in_Ba hK hP _ (he) rfl 2 (by decide) wf_Ba_16 rfl (v := .int (iI (nb 2))) (rfl) d_Ba_valueAt_35 ?_
  refine lv_isub hx hb d_Ba_valueAt_38 ?_
  refine topi_eq (iI_sub (B 4) (nb 2)) ?_
  refine lv_imul hx hb d_Ba_valueAt_39 ?_
  refine topi_eq (iI_mul ((B 4) - (nb 2)) ((B 4) - (nb 2))) ?_
  refine lv_iadd hx hb d_Ba_valueAt_40 ?_
  refine topi_eq (iI_add ((((B 0) - (nb 0)) * ((B 0) - (nb 0))) + (((B 2) - (nb 1)) * ((B 2) - (nb 1)))) (((B 4) - (nb 2)) * ((B 4) - (nb 2)))) ?_
  refine lv_aload_n hx hb d_Ba_valueAt_41 rfl (lv_at hl 0 rfl) ?_
  refine rd_get hC in_Ba hK hP _ (he) rfl 3 (by decide) wf_Ba_19 rfl (v := .int (iI (nb 3))) (rfl) d_Ba_valueAt_42 ?_
  refine lv_aload_n hx hb d_Ba_valueAt_45 rfl (lv_at hl 0 rfl) ?_
  refine rd_get hC in_Ba hK hP _ (he) rfl 3 (by decide) wf_Ba_19 rfl (v := .int (iI (nb 3))) (rfl) d_Ba_valueAt_46 ?_
  refine lv_imul hx hb d_Ba_valueAt_49 ?_
  refine topi_eq (iI_mul (nb 3) (nb 3)) ?_
  refine lv_isub hx hb d_Ba_valueAt_50 ?_
  refine topi_eq (iI_sub (((((B 0) - (nb 0)) * ((B 0) - (nb 0))) + (((B 2) - (nb 1)) * ((B 2) - (nb 1)))) + (((B 4) - (nb 2)) * ((B 4) - (nb 2)))) ((nb 3) * (nb 3))) ?_
  exact hret _ _ _ d_Ba_valueAt_51 (congrArg iI (lf0_V hpt))
set_option maxHeartbeats 400000 in
set_option maxRecDepth 100000 in
theorem c_Bx_valueAt (l : Launch) (D : va_G) (cT : Nat → ClassId) (w : va_W)  (nb B : Nat → Int) (d i r : Nat) (he : w[i]? = some (r, .inr (2, [.int (iI (nb 0)), .int (iI (nb 1)), .int (iI (nb 2)), .int (iI (nb 3)), .int (iI (nb 4)), .int (iI (nb 5))]))) (hn : ∀ j, -20 ≤ nb j ∧ nb j ≤ 20) (hB : ∀ j, -1300 ≤ B j ∧ B j ≤ 1300) (hpt : PT6 B) : RDi l D cT w y_Bx_valueAt b_Bx_valueAt 7 (some .int) (3 + 2 * d) (60 + 70 * d) [.ref r, .int (iI (B 0)), .int (iI (B 2)), .int (iI (B 4))] (fun v => v = iI (lfL 1 nb B)) := by
  refine rd_enti (own := R_Bx) (by decide) rfl (Nat.le_of_ble_eq_true rfl) ?_
  intro p e s m args below meth c Q hC hK hP hret ls hl
  have hx := hC.1
  have hb := hC.2.1
  replace hl : lv_has ls 7 [(0, .ref r), (1, .int (iI (B 0))), (2, .int (iI (B 2))), (3, .int (iI (B 4)))] := hl
  have n0 := hn 0
  have n1 := hn 1
  have n2 := hn 2
  have n3 := hn 3
  have n4 := hn 4
  have n5 := hn 5
  have b0 := hB 0
  have b1 := hB 1
  have b2 := hB 2
  have b3 := hB 3
  have b4 := hB 4
  have b5 := hB 5
  refine lv_aload_n hx hb d_Bx_valueAt_0 rfl (lv_at hl 0 rfl) ?_
  refine rd_get hC in_Bx hK hP _ (he) rfl 0 (by decide) wf_Bx_7 rfl (v := .int (iI (nb 0))) (rfl) d_Bx_valueAt_1 ?_
  refine lv_iload_n hx hb d_Bx_valueAt_4 rfl (lv_at hl 1 rfl) ?_
  refine lv_isub hx hb d_Bx_valueAt_5 ?_
  refine topi_eq (iI_sub (nb 0) (B 0)) ?_
  refine lv_iload_n hx hb d_Bx_valueAt_6 rfl (lv_at hl 1 rfl) ?_
  refine lv_aload_n hx hb d_Bx_valueAt_7 rfl (lv_at hl 0 rfl) ?_
  refine rd_get hC in_Bx hK hP _ (he) rfl 3 (by decide) wf_Bx_19 rfl (v := .int (iI (nb 3))) (rfl) d_Bx_valueAt_8 ?_
  refine lv_isub hx hb d_Bx_valueAt_11 ?_
  refine topi_eq (iI_sub (B 0) (nb 3)) ?_
  refine st_calli (np := 2) hC (c_Ma_max l ((nb 0) - (B 0)) ((B 0) - (nb 3)) (by omega) (by omega) (by omega) (by omega)) ⟨wl_Bx_28, wt_Ma_max, wc_Ma_max, wn_Ma⟩ ⟨by decide, by decide, by decide +kernel⟩ ⟨by simp only [rmOf]; omega, by simp only [rmOf]; omega⟩ hl.1 rfl (rest := []) rfl (Nat.le_of_ble_eq_true rfl) ⟨Nat.zero_le _, Nat.zero_le _⟩ d_Bx_valueAt_12 (fun rr hrr => ?_)
  subst hrr
  refine lv_istore (lv' := [(4, .int (iI (mx ((nb 0) - (B 0)) ((B 0) - (nb 3))))), (0, .ref r), (1, .int (iI (B 0))), (2, .int (iI (B 2))), (3, .int (iI (B 4)))]) hx hb d_Bx_valueAt_15 hl (by decide) rfl (fun ls hl => ?_)
  refine lv_aload_n hx hb d_Bx_valueAt_17 rfl (lv_at hl 1 rfl) ?_
  refine rd_get hC in_Bx hK hP _ (he) rfl 1 (by decide) wf_Bx_13 rfl (v := .int (iI (nb 1))) (rfl) d_Bx_valueAt_18 ?_
  refine lv_iload_n hx hb d_Bx_valueAt_21 rfl (lv_at hl 3 rfl) ?_
  refine lv_isub hx hb d_Bx_valueAt_22 ?_
  refine topi_eq (iI_sub (nb 1) (B 2)) ?_
  refine lv_iload_n hx hb d_Bx_valueAt_23 rfl (lv_at hl 3 rfl) ?_
  refine lv_aload_n hx hb d_Bx_valueAt_24 rfl (lv_at hl 1 rfl) ?_
  refine rd_get hC in_Bx hK hP _ (he) rfl 4 (by decide) wf_Bx_22 rfl (v := .int (iI (nb 4))) (rfl) d_Bx_valueAt_25 ?_
  refine lv_isub hx hb d_Bx_valueAt_28 ?_
  refine topi_eq (iI_sub (B 2) (nb 4)) ?_
  refine st_calli (np := 2) hC (c_Ma_max l ((nb 1) - (B 2)) ((B 2) - (nb 4)) (by omega) (by omega) (by omega) (by omega)) ⟨wl_Bx_28, wt_Ma_max, wc_Ma_max, wn_Ma⟩ ⟨by decide, by decide, by decide +kernel⟩ ⟨by simp only [rmOf]; omega, by simp only [rmOf]; omega⟩ hl.1 rfl (rest := []) rfl (Nat.le_of_ble_eq_true rfl) ⟨Nat.zero_le _, Nat.zero_le _⟩ d_Bx_valueAt_29 (fun rr hrr => ?_)
  subst hrr
  refine lv_istore (lv' := [(5, .int (iI (mx ((nb 1) - (B 2)) ((B 2) - (nb 4))))), (4, .int (iI (mx ((nb 0) - (B 0)) ((B 0) - (nb 3))))), (0, .ref r), (1, .int (iI (B 0))), (2, .int (iI (B 2))), (3, .int (iI (B 4)))]) hx hb d_Bx_valueAt_32 hl (by decide) rfl (fun ls hl => ?_)
  refine lv_aload_n hx hb d_Bx_valueAt_34 rfl (lv_at hl 2 rfl) ?_
  refine rd_get hC in_Bx hK hP _ (he) rfl 2 (by decide) wf_Bx_16 rfl (v := .int (iI (nb 2))) (rfl) d_Bx_valueAt_35 ?_
  refine lv_iload_n hx hb d_Bx_valueAt_38 rfl (lv_at hl 5 rfl) ?_
  refine lv_isub hx hb d_Bx_valueAt_39 ?_
  refine topi_eq (iI_sub (nb 2) (B 4)) ?_
  refine lv_iload_n hx hb d_Bx_valueAt_40 rfl (lv_at hl 5 rfl) ?_
  refine lv_aload_n hx hb d_Bx_valueAt_41 rfl (lv_at hl 2 rfl) ?_
  refine rd_get hC in_Bx hK hP _ (he) rfl 5 (by decide) wf_Bx_25 rfl (v := .int (iI (nb 5))) (rfl) d_Bx_valueAt_42 ?_
  refine lv_isub hx hb d_Bx_valueAt_45 ?_
  refine topi_eq (iI_sub (B 4) (nb 5)) ?_
  refine st_calli (np := 2) hC (c_Ma_max l ((nb 2) - (B 4)) ((B 4) - (nb 5)) (by omega) (by omega) (by omega) (by omega)) ⟨wl_Bx_28, wt_Ma_max, wc_Ma_max, wn_Ma⟩ ⟨by decide, by decide, by decide +kernel⟩ ⟨by simp only [rmOf]; omega, by simp only [rmOf]; omega⟩ hl.1 rfl (rest := []) rfl (Nat.le_of_ble_eq_true rfl) ⟨Nat.zero_le _, Nat.zero_le _⟩ d_Bx_valueAt_46 (fun rr hrr => ?_)
  subst hrr
  refine lv_istore (lv' := [(6, .int (iI (mx ((nb 2) - (B 4)) ((B 4) - (nb 5))))), (5, .int (iI (mx ((nb 1) - (B 2)) ((B 2) - (nb 4))))), (4, .int (iI (mx ((nb 0) - (B 0)) ((B 0) - (nb 3))))), (0, .ref r), (1, .int (iI (B 0))), (2, .int (iI (B 2))), (3, .int (iI (B 4)))]) hx hb d_Bx_valueAt_49 hl (by decide) rfl (fun ls hl => ?_)
  refine lv_iload hx hb d_Bx_valueAt_51 (lv_at hl 2 rfl) ?_
  refine lv_iload hx hb d_Bx_valueAt_53 (lv_at hl 1 rfl) ?_
  refine lv_iload hx hb d_Bx_valueAt_55 (lv_at hl 0 rfl) ?_
  refine st_calli (np := 2) hC (c_Ma_max l (mx ((nb 1) - (B 2)) ((B 2) - (nb 4))) (mx ((nb 2) - (B 4)) ((B 4) - (nb 5))) (by have q9 : -1000000 ≤ mx ((nb 1) - (B 2)) ((B 2) - (nb 4)) ∧ mx ((nb 1) - (B 2)) ((B 2) - (nb 4)) ≤ 1000000 := mxb (by omega) (by omega); omega) (by have q9 : -1000000 ≤ mx ((nb 1) - (B 2)) ((B 2) - (nb 4)) ∧ mx ((nb 1) - (B 2)) ((B 2) - (nb 4)) ≤ 1000000 := mxb (by omega) (by omega); omega) (by have q9 : -1000000 ≤ mx ((nb 2) - (B 4)) ((B 4) - (nb 5)) ∧ mx ((nb 2) - (B 4)) ((B 4) - (nb 5)) ≤ 1000000 := mxb (by omega) (by omega); omega) (by have q9 : -1000000 ≤ mx ((nb 2) - (B 4)) ((B 4) - (nb 5)) ∧ mx ((nb 2) - (B 4)) ((B 4) - (nb 5)) ≤ 1000000 := mxb (by omega) (by omega); omega)) ⟨wl_Bx_28, wt_Ma_max, wc_Ma_max, wn_Ma⟩ ⟨by decide, by decide, by decide +kernel⟩ ⟨by simp only [rmOf]; omega, by simp only [rmOf]; omega⟩ hl.1 rfl (rest := [.int (iI (mx ((nb 0) - (B 0)) ((B 0) - (nb 3))))]) rfl (Nat.le_of_ble_eq_true rfl) ⟨Nat.zero_le _, Nat.zero_le _⟩ d_Bx_valueAt_57 (fun rr hrr => ?_)
  subst hrr
  refine st_calli (np := 2) hC (c_Ma_max l (mx ((nb 0) - (B 0)) ((B 0) - (nb 3))) (mx (mx ((nb 1) - (B 2)) ((B 2) - (nb 4))) (mx ((nb 2) - (B 4)) ((B 4) - (nb 5)))) (by have q9 : -1000000 ≤ mx ((nb 0) - (B 0)) ((B 0) - (nb 3)) ∧ mx ((nb 0) - (B 0)) ((B 0) - (nb 3)) ≤ 1000000 := mxb (by omega) (by omega); omega) (by have q9 : -1000000 ≤ mx ((nb 0) - (B 0)) ((B 0) - (nb 3)) ∧ mx ((nb 0) - (B 0)) ((B 0) - (nb 3)) ≤ 1000000 := mxb (by omega) (by omega); omega) (by have q9 : -1000000 ≤ mx (mx ((nb 1) - (B 2)) ((B 2) - (nb 4))) (mx ((nb 2) - (B 4)) ((B 4) - (nb 5))) ∧ mx (mx ((nb 1) - (B 2)) ((B 2) - (nb 4))) (mx ((nb 2) - (B 4)) ((B 4) - (nb 5))) ≤ 1000000 := mxb (mxb (by omega) (by omega)) (mxb (by omega) (by omega)); omega) (by have q9 : -1000000 ≤ mx (mx ((nb 1) - (B 2)) ((B 2) - (nb 4))) (mx ((nb 2) - (B 4)) ((B 4) - (nb 5))) ∧ mx (mx ((nb 1) - (B 2)) ((B 2) - (nb 4))) (mx ((nb 2) - (B 4)) ((B 4) - (nb 5))) ≤ 1000000 := mxb (mxb (by omega) (by omega)) (mxb (by omega) (by omega)); omega)) ⟨wl_Bx_28, wt_Ma_max, wc_Ma_max, wn_Ma⟩ ⟨by decide, by decide, by decide +kernel⟩ ⟨by simp only [rmOf]; omega, by simp only [rmOf]; omega⟩ hl.1 rfl (rest := []) rfl (Nat.le_of_ble_eq_true rfl) ⟨Nat.zero_le _, Nat.zero_le _⟩ d_Bx_valueAt_60 (fun rr hrr => ?_)
  subst hrr
  refine lv_iconst (v := 1) hx hb d_Bx_valueAt_63 (by decide) ?_
  refine lv_isub hx hb d_Bx_valueAt_64 ?_
  refine topi_eq (iI_sub (mx (mx ((nb 0) - (B 0)) ((B 0) - (nb 3))) (mx (mx ((nb 1) - (B 2)) ((B 2) - (nb 4))) (mx ((nb 2) - (B 4)) ((B 4) - (nb 5))))) 1) ?_
  exact hret _ _ _ d_Bx_valueAt_65 (congrArg iI (lf1_V hpt))
set_option maxHeartbeats 400000 in
set_option maxRecDepth 100000 in
theorem c_Pn_valueAt (l : Launch) (D : va_G) (cT : Nat → ClassId) (w : va_W)  (nb B : Nat → Int) (d i r : Nat) (he : w[i]? = some (r, .inr (7, [.int (iI (nb 0)), .int (iI (nb 1)), .int (iI (nb 2)), .int (iI (nb 3))]))) (hpt : PT6 B) : RDi l D cT w y_Pn_valueAt b_Pn_valueAt 4 (some .int) (3 + 2 * d) (60 + 70 * d) [.ref r, .int (iI (B 0)), .int (iI (B 2)), .int (iI (B 4))] (fun v => v = iI (lfL 2 nb B)) := by
  refine rd_enti (own := R_Pn) (by decide) rfl (Nat.le_of_ble_eq_true rfl) ?_
  intro p e s m args below meth c Q hC hK hP hret ls hl
  have hx := hC.1
  have hb := hC.2.1
  replace hl : lv_has ls 4 [(0, .ref r), (1, .int (iI (B 0))), (2, .int (iI (B 2))), (3, .int (iI (B 4)))] := hl
  refine lv_aload_n hx hb d_Pn_valueAt_0 rfl (lv_at hl 0 rfl) ?_
  refine rd_get hC in_Pn hK hP _ (he) rfl 0 (by decide) wf_Pn_7 rfl (v := .int (iI (nb 0))) (rfl) d_Pn_valueAt_1 ?_
  refine lv_iload_n hx hb d_Pn_valueAt_4 rfl (lv_at hl 1 rfl) ?_
  refine lv_imul hx hb d_Pn_valueAt_5 ?_
  refine topi_eq (iI_mul (nb 0) (B 0)) ?_
  refine lv_aload_n hx hb d_Pn_valueAt_6 rfl (lv_at hl 0 rfl) ?_
  refine rd_get hC in_Pn hK hP _ (he) rfl 1 (by decide) wf_Pn_13 rfl (v := .int (iI (nb 1))) (rfl) d_Pn_valueAt_7 ?_
  refine lv_iload_n hx hb d_Pn_valueAt_10 rfl (lv_at hl 2 rfl) ?_
  refine lv_imul hx hb d_Pn_valueAt_11 ?_
  refine topi_eq (iI_mul (nb 1) (B 2)) ?_
  refine lv_iadd hx hb d_Pn_valueAt_12 ?_
  refine topi_eq (iI_add ((nb 0) * (B 0)) ((nb 1) * (B 2))) ?_
  refine lv_aload_n hx hb d_Pn_valueAt_13 rfl (lv_at hl 0 rfl) ?_
  refine rd_get hC in_Pn hK hP _ (he) rfl 2 (by decide) wf_Pn_16 rfl (v := .int (iI (nb 2))) (rfl) d_Pn_valueAt_14 ?_
  refine lv_iload_n hx hb d_Pn_valueAt_17 rfl (lv_at hl 3 rfl) ?_
  refine lv_imul hx hb d_Pn_valueAt_18 ?_
  refine topi_eq (iI_mul (nb 2) (B 4)) ?_
  refine lv_iadd hx hb d_Pn_valueAt_19 ?_
  refine topi_eq (iI_add (((nb 0) * (B 0)) + ((nb 1) * (B 2))) ((nb 2) * (B 4))) ?_
  refine lv_aload_n hx hb d_Pn_valueAt_20 rfl (lv_at hl 0 rfl) ?_
  refine rd_get hC in_Pn hK hP _ (he) rfl 3 (by decide) wf_Pn_19 rfl (v := .int (iI (nb 3))) (rfl) d_Pn_valueAt_21 ?_
  refine lv_isub hx hb d_Pn_valueAt_24 ?_
  refine topi_eq (iI_sub ((((nb 0) * (B 0)) + ((nb 1) * (B 2))) + ((nb 2) * (B 4))) (nb 3)) ?_
  exact hret _ _ _ d_Pn_valueAt_25 (congrArg iI (lf2_V hpt))
set_option maxHeartbeats 400000 in
set_option maxRecDepth 100000 in
theorem c_Ba_bound (l : Launch) (D : va_G) (cT : Nat → ClassId) (w : va_W) (hi : Int32) (nb B : Nat → Int) (d i r : Nat) (he : w[i]? = some (r, .inr (0, [.int (iI (nb 0)), .int (iI (nb 1)), .int (iI (nb 2)), .int (iI (nb 3))]))) (hn : ∀ j, -20 ≤ nb j ∧ nb j ≤ 20) (hB : ∀ j, -1300 ≤ B j ∧ B j ≤ 1300) : RDi l D cT w y_Ba_bound b_Ba_bound 9 (some .int) (3 + 2 * d) (60 + 70 * d) [.ref r, .int (iI (B 0)), .int (iI (B 2)), .int (iI (B 4)), .int (iI (B 1)), .int (iI (B 3)), .int (iI (B 5)), .int hi] (fun v => v = iI (lh hi (lfL 0 nb B, lfH 0 nb B))) := by
  refine rd_enti (own := R_Ba) (by decide) rfl (Nat.le_of_ble_eq_true rfl) ?_
  intro p e s m args below meth c Q hC hK hP hret ls hl
  have hx := hC.1
  have hb := hC.2.1
  replace hl : lv_has ls 9 [(0, .ref r), (1, .int (iI (B 0))), (2, .int (iI (B 2))), (3, .int (iI (B 4))), (4, .int (iI (B 1))), (5, .int (iI (B 3))), (6, .int (iI (B 5))), (7, .int hi)] := hl
  have n0 := hn 0
  have n1 := hn 1
  have n2 := hn 2
  have n3 := hn 3
  have n4 := hn 4
  have n5 := hn 5
  have b0 := hB 0
  have b1 := hB 1
  have b2 := hB 2
  have b3 := hB 3
  have b4 := hB 4
  have b5 := hB 5
  refine lv_iload_n hx hb d_Ba_bound_0 rfl (lv_at hl 1 rfl) ?_
  refine lv_aload_n hx hb d_Ba_bound_1 rfl (lv_at hl 0 rfl) ?_
  refine rd_get hC in_Ba hK hP _ (he) rfl 0 (by decide) wf_Ba_7 rfl (v := .int (iI (nb 0))) (rfl) d_Ba_bound_2 ?_
  refine lv_isub hx hb d_Ba_bound_5 ?_
  refine topi_eq (iI_sub (B 0) (nb 0)) ?_
  refine lv_iload hx hb d_Ba_bound_6 (lv_at hl 4 rfl) ?_
  refine lv_aload_n hx hb d_Ba_bound_8 rfl (lv_at hl 0 rfl) ?_
  refine rd_get hC in_Ba hK hP _ (he) rfl 0 (by decide) wf_Ba_7 rfl (v := .int (iI (nb 0))) (rfl) d_Ba_bound_9 ?_
  refine lv_isub hx hb d_Ba_bound_12 ?_
  refine topi_eq (iI_sub (B 1) (nb 0)) ?_
  refine lv_iload hx hb d_Ba_bound_13 (lv_at hl 7 rfl) ?_
  refine st_calli (np := 3) hC (c_Ba_squareBound l ((B 0) - (nb 0)) ((B 1) - (nb 0)) hi (by omega) (by omega) (by omega) (by omega)) ⟨wl_Ba_22, wt_Ba_squareBound, wc_Ba_squareBound, wn_Ba⟩ ⟨by decide, by decide, by decide +kernel⟩ ⟨by simp only [rmOf]; omega, by simp only [rmOf]; omega⟩ hl.1 rfl (rest := []) rfl (Nat.le_of_ble_eq_true rfl) ⟨Nat.zero_le _, Nat.zero_le _⟩ d_Ba_bound_15 (fun rr hrr => ?_)
  subst hrr
  refine lv_istore (lv' := [(8, .int (iI (sqB ((B 0) - (nb 0)) ((B 1) - (nb 0)) hi))), (0, .ref r), (1, .int (iI (B 0))), (2, .int (iI (B 2))), (3, .int (iI (B 4))), (4, .int (iI (B 1))), (5, .int (iI (B 3))), (6, .int (iI (B 5))), (7, .int hi)]) hx hb d_Ba_bound_18 hl (by decide) rfl (fun ls hl => ?_)
  refine lv_iload hx hb d_Ba_bound_20 (lv_at hl 0 rfl) ?_
  refine lv_iload_n hx hb d_Ba_bound_22 rfl (lv_at hl 3 rfl) ?_
  refine lv_aload_n hx hb d_Ba_bound_23 rfl (lv_at hl 1 rfl) ?_
  refine rd_get hC in_Ba hK hP _ (he) rfl 1 (by decide) wf_Ba_13 rfl (v := .int (iI (nb 1))) (rfl) d_Ba_bound_24 ?_
  refine lv_isub hx hb d_Ba_bound_27 ?_
  refine topi_eq (iI_sub (B 2) (nb 1)) ?_
  refine lv_iload hx hb d_Ba_bound_28 (lv_at hl 6 rfl) ?_
  refine lv_aload_n hx hb d_Ba_bound_30 rfl (lv_at hl 1 rfl) ?_
  refine rd_get hC in_Ba hK hP _ (he) rfl 1 (by decide) wf_Ba_13 rfl (v := .int (iI (nb 1))) (rfl) d_Ba_bound_31 ?_
  refine lv_isub hx hb d_Ba_bound_34 ?_
  refine topi_eq (iI_sub (B 3) (nb 1)) ?_
  refine lv_iload hx hb d_Ba_bound_35 (lv_at hl 8 rfl) ?_
  refine st_calli (np := 3) hC (c_Ba_squareBound l ((B 2) - (nb 1)) ((B 3) - (nb 1)) hi (by omega) (by omega) (by omega) (by omega)) ⟨wl_Ba_22, wt_Ba_squareBound, wc_Ba_squareBound, wn_Ba⟩ ⟨by decide, by decide, by decide +kernel⟩ ⟨by simp only [rmOf]; omega, by simp only [rmOf]; omega⟩ hl.1 rfl (rest := [.int (iI (sqB ((B 0) - (nb 0)) ((B 1) - (nb 0)) hi))]) rfl (Nat.le_of_ble_eq_true rfl) ⟨Nat.zero_le _, Nat.zero_le _⟩ d_Ba_bound_37 (fun rr hrr => ?_)
  subst hrr
  refine lv_iadd hx hb d_Ba_bound_40 ?_
  refine topi_eq (iI_add (sqB ((B 0) - (nb 0)) ((B 1) - (nb 0)) hi) (sqB ((B 2) - (nb 1)) ((B 3) - (nb 1)) hi)) ?_
  refine lv_istore (lv' := [(8, .int (iI ((sqB ((B 0) - (nb 0)) ((B 1) - (nb 0)) hi) + (sqB ((B 2) - (nb 1)) ((B 3) - (nb 1)) hi)))), (0, .ref r), (1, .int (iI (B 0))), (2, .int (iI (B 2))), (3, .int (iI (B 4))), (4, .int (iI (B 1))), (5, .int (iI (B 3))), (6, .int (iI (B 5))), (7, .int hi)]) hx hb d_Ba_bound_41 hl (by decide) rfl (fun ls hl => ?_)
  refine lv_iload hx hb d_Ba_bound_43 (lv_at hl 0 rfl) ?_
  refine lv_iload_n hx hb d_Ba_bound_45 rfl (lv_at hl 4 rfl) ?_
  refine lv_aload_n hx hb d_Ba_bound_46 rfl (lv_at hl 1 rfl) ?_
  refine rd_get hC in_Ba hK hP _ (he) rfl 2 (by decide) wf_Ba_16 rfl (v := .int (iI (nb 2))) (rfl) d_Ba_bound_47 ?_
  refine lv_isub hx hb d_Ba_bound_50 ?_
  refine topi_eq (iI_sub (B 4) (nb 2)) ?_
  refine lv_iload hx hb d_Ba_bound_51 (lv_at hl 7 rfl) ?_
  refine lv_aload_n hx hb d_Ba_bound_53 rfl (lv_at hl 1 rfl) ?_
  refine rd_get hC in_Ba hK hP _ (he) rfl 2 (by decide) wf_Ba_16 rfl (v := .int (iI (nb 2))) (rfl) d_Ba_bound_54 ?_
  refine lv_isub hx hb d_Ba_bound_57 ?_
  refine topi_eq (iI_sub (B 5) (nb 2)) ?_
  refine lv_iload hx hb d_Ba_bound_58 (lv_at hl 8 rfl) ?_
  refine st_calli (np := 3) hC (c_Ba_squareBound l ((B 4) - (nb 2)) ((B 5) - (nb 2)) hi (by omega) (by omega) (by omega) (by omega)) ⟨wl_Ba_22, wt_Ba_squareBound, wc_Ba_squareBound, wn_Ba⟩ ⟨by decide, by decide, by decide +kernel⟩ ⟨by simp only [rmOf]; omega, by simp only [rmOf]; omega⟩ hl.1 rfl (rest := [.int (iI ((sqB ((B 0) - (nb 0)) ((B 1) - (nb 0)) hi) + (sqB ((B 2) - (nb 1)) ((B 3) - (nb 1)) hi)))]) rfl (Nat.le_of_ble_eq_true rfl) ⟨Nat.zero_le _, Nat.zero_le _⟩ d_Ba_bound_60 (fun rr hrr => ?_)
  subst hrr
  refine lv_iadd hx hb d_Ba_bound_63 ?_
  refine topi_eq (iI_add ((sqB ((B 0) - (nb 0)) ((B 1) - (nb 0)) hi) + (sqB ((B 2) - (nb 1)) ((B 3) - (nb 1)) hi)) (sqB ((B 4) - (nb 2)) ((B 5) - (nb 2)) hi)) ?_
  refine lv_istore (lv' := [(8, .int (iI (((sqB ((B 0) - (nb 0)) ((B 1) - (nb 0)) hi) + (sqB ((B 2) - (nb 1)) ((B 3) - (nb 1)) hi)) + (sqB ((B 4) - (nb 2)) ((B 5) - (nb 2)) hi)))), (0, .ref r), (1, .int (iI (B 0))), (2, .int (iI (B 2))), (3, .int (iI (B 4))), (4, .int (iI (B 1))), (5, .int (iI (B 3))), (6, .int (iI (B 5))), (7, .int hi)]) hx hb d_Ba_bound_64 hl (by decide) rfl (fun ls hl => ?_)
  refine lv_iload hx hb d_Ba_bound_66 (lv_at hl 0 rfl) ?_
  refine lv_aload_n hx hb d_Ba_bound_68 rfl (lv_at hl 1 rfl) ?_
  refine rd_get hC in_Ba hK hP _ (he) rfl 3 (by decide) wf_Ba_19 rfl (v := .int (iI (nb 3))) (rfl) d_Ba_bound_69 ?_
  refine lv_aload_n hx hb d_Ba_bound_72 rfl (lv_at hl 1 rfl) ?_
  refine rd_get hC in_Ba hK hP _ (he) rfl 3 (by decide) wf_Ba_19 rfl (v := .int (iI (nb 3))) (rfl) d_Ba_bound_73 ?_
  refine lv_imul hx hb d_Ba_bound_76 ?_
  refine topi_eq (iI_mul (nb 3) (nb 3)) ?_
  refine lv_isub hx hb d_Ba_bound_77 ?_
  refine topi_eq (iI_sub (((sqB ((B 0) - (nb 0)) ((B 1) - (nb 0)) hi) + (sqB ((B 2) - (nb 1)) ((B 3) - (nb 1)) hi)) + (sqB ((B 4) - (nb 2)) ((B 5) - (nb 2)) hi)) ((nb 3) * (nb 3))) ?_
  exact hret _ _ _ d_Ba_bound_78 (congrArg iI (lf0_B hi))
set_option maxHeartbeats 400000 in
set_option maxRecDepth 100000 in
theorem c_Bx_bound (l : Launch) (D : va_G) (cT : Nat → ClassId) (w : va_W) (hi : Int32) (nb B : Nat → Int) (d i r : Nat) (he : w[i]? = some (r, .inr (2, [.int (iI (nb 0)), .int (iI (nb 1)), .int (iI (nb 2)), .int (iI (nb 3)), .int (iI (nb 4)), .int (iI (nb 5))]))) (hn : ∀ j, -20 ≤ nb j ∧ nb j ≤ 20) (hB : ∀ j, -1300 ≤ B j ∧ B j ≤ 1300) : RDi l D cT w y_Bx_bound b_Bx_bound 11 (some .int) (3 + 2 * d) (60 + 70 * d) [.ref r, .int (iI (B 0)), .int (iI (B 2)), .int (iI (B 4)), .int (iI (B 1)), .int (iI (B 3)), .int (iI (B 5)), .int hi] (fun v => v = iI (lh hi (lfL 1 nb B, lfH 1 nb B))) := by
  refine rd_enti (own := R_Bx) (by decide) rfl (Nat.le_of_ble_eq_true rfl) ?_
  intro p e s m args below meth c Q hC hK hP hret ls hl
  have hx := hC.1
  have hb := hC.2.1
  replace hl : lv_has ls 11 [(0, .ref r), (1, .int (iI (B 0))), (2, .int (iI (B 2))), (3, .int (iI (B 4))), (4, .int (iI (B 1))), (5, .int (iI (B 3))), (6, .int (iI (B 5))), (7, .int hi)] := hl
  have n0 := hn 0
  have n1 := hn 1
  have n2 := hn 2
  have n3 := hn 3
  have n4 := hn 4
  have n5 := hn 5
  have b0 := hB 0
  have b1 := hB 1
  have b2 := hB 2
  have b3 := hB 3
  have b4 := hB 4
  have b5 := hB 5
  refine lv_iload hx hb d_Bx_bound_0 (lv_at hl 7 rfl) ?_
  refine lv_if_eq (tgt := 24) hx hb d_Bx_bound_2 (by decide) (fun h1 => ?_) (fun h1 => ?_)
  · skip
    refine lv_aload_n hx hb d_Bx_bound_24 rfl (lv_at hl 0 rfl) ?_
    refine rd_get hC in_Bx hK hP _ (he) rfl 0 (by decide) wf_Bx_7 rfl (v := .int (iI (nb 0))) (rfl) d_Bx_bound_25 ?_
    refine lv_iload hx hb d_Bx_bound_28 (lv_at hl 4 rfl) ?_
    refine lv_isub hx hb d_Bx_bound_30 ?_
    refine topi_eq (iI_sub (nb 0) (B 1)) ?_
    refine lv_iload_n hx hb d_Bx_bound_31 rfl (lv_at hl 1 rfl) ?_
    refine lv_aload_n hx hb d_Bx_bound_32 rfl (lv_at hl 0 rfl) ?_
    refine rd_get hC in_Bx hK hP _ (he) rfl 3 (by decide) wf_Bx_19 rfl (v := .int (iI (nb 3))) (rfl) d_Bx_bound_33 ?_
    refine lv_isub hx hb d_Bx_bound_36 ?_
    refine topi_eq (iI_sub (B 0) (nb 3)) ?_
    refine st_calli (np := 2) hC (c_Ma_max l ((nb 0) - (B 1)) ((B 0) - (nb 3)) (by omega) (by omega) (by omega) (by omega)) ⟨wl_Bx_28, wt_Ma_max, wc_Ma_max, wn_Ma⟩ ⟨by decide, by decide, by decide +kernel⟩ ⟨by simp only [rmOf]; omega, by simp only [rmOf]; omega⟩ hl.1 rfl (rest := []) rfl (Nat.le_of_ble_eq_true rfl) ⟨Nat.zero_le _, Nat.zero_le _⟩ d_Bx_bound_37 (fun rr hrr => ?_)
    subst hrr
    refine lv_istore (lv' := [(8, .int (iI (mx ((nb 0) - (B 1)) ((B 0) - (nb 3))))), (0, .ref r), (1, .int (iI (B 0))), (2, .int (iI (B 2))), (3, .int (iI (B 4))), (4, .int (iI (B 1))), (5, .int (iI (B 3))), (6, .int (iI (B 5))), (7, .int hi)]) hx hb d_Bx_bound_40 hl (by decide) rfl (fun ls hl => ?_)
    refine lv_iload hx hb d_Bx_bound_42 (lv_at hl 8 rfl) ?_
    refine lv_if_eq (tgt := 66) hx hb d_Bx_bound_44 (by decide) (fun h2 => ?_) (fun h2 => ?_)
    · skip
      refine lv_aload_n hx hb d_Bx_bound_66 rfl (lv_at hl 1 rfl) ?_
      refine rd_get hC in_Bx hK hP _ (he) rfl 1 (by decide) wf_Bx_13 rfl (v := .int (iI (nb 1))) (rfl) d_Bx_bound_67 ?_
      refine lv_iload hx hb d_Bx_bound_70 (lv_at hl 6 rfl) ?_
      refine lv_isub hx hb d_Bx_bound_72 ?_
      refine topi_eq (iI_sub (nb 1) (B 3)) ?_
      refine lv_iload_n hx hb d_Bx_bound_73 rfl (lv_at hl 3 rfl) ?_
      refine lv_aload_n hx hb d_Bx_bound_74 rfl (lv_at hl 1 rfl) ?_
      refine rd_get hC in_Bx hK hP _ (he) rfl 4 (by decide) wf_Bx_22 rfl (v := .int (iI (nb 4))) (rfl) d_Bx_bound_75 ?_
      refine lv_isub hx hb d_Bx_bound_78 ?_
      refine topi_eq (iI_sub (B 2) (nb 4)) ?_
      refine st_calli (np := 2) hC (c_Ma_max l ((nb 1) - (B 3)) ((B 2) - (nb 4)) (by omega) (by omega) (by omega) (by omega)) ⟨wl_Bx_28, wt_Ma_max, wc_Ma_max, wn_Ma⟩ ⟨by decide, by decide, by decide +kernel⟩ ⟨by simp only [rmOf]; omega, by simp only [rmOf]; omega⟩ hl.1 rfl (rest := []) rfl (Nat.le_of_ble_eq_true rfl) ⟨Nat.zero_le _, Nat.zero_le _⟩ d_Bx_bound_79 (fun rr hrr => ?_)
      subst hrr
      refine lv_istore (lv' := [(9, .int (iI (mx ((nb 1) - (B 3)) ((B 2) - (nb 4))))), (8, .int (iI (mx ((nb 0) - (B 1)) ((B 0) - (nb 3))))), (0, .ref r), (1, .int (iI (B 0))), (2, .int (iI (B 2))), (3, .int (iI (B 4))), (4, .int (iI (B 1))), (5, .int (iI (B 3))), (6, .int (iI (B 5))), (7, .int hi)]) hx hb d_Bx_bound_82 hl (by decide) rfl (fun ls hl => ?_)
      refine lv_iload hx hb d_Bx_bound_84 (lv_at hl 9 rfl) ?_
      refine lv_if_eq (tgt := 108) hx hb d_Bx_bound_86 (by decide) (fun h3 => ?_) (fun h3 => ?_)
      · skip
        refine lv_aload_n hx hb d_Bx_bound_108 rfl (lv_at hl 2 rfl) ?_
        refine rd_get hC in_Bx hK hP _ (he) rfl 2 (by decide) wf_Bx_16 rfl (v := .int (iI (nb 2))) (rfl) d_Bx_bound_109 ?_
        refine lv_iload hx hb d_Bx_bound_112 (lv_at hl 8 rfl) ?_
        refine lv_isub hx hb d_Bx_bound_114 ?_
        refine topi_eq (iI_sub (nb 2) (B 5)) ?_
        refine lv_iload_n hx hb d_Bx_bound_115 rfl (lv_at hl 5 rfl) ?_
        refine lv_aload_n hx hb d_Bx_bound_116 rfl (lv_at hl 2 rfl) ?_
        refine rd_get hC in_Bx hK hP _ (he) rfl 5 (by decide) wf_Bx_25 rfl (v := .int (iI (nb 5))) (rfl) d_Bx_bound_117 ?_
        refine lv_isub hx hb d_Bx_bound_120 ?_
        refine topi_eq (iI_sub (B 4) (nb 5)) ?_
        refine st_calli (np := 2) hC (c_Ma_max l ((nb 2) - (B 5)) ((B 4) - (nb 5)) (by omega) (by omega) (by omega) (by omega)) ⟨wl_Bx_28, wt_Ma_max, wc_Ma_max, wn_Ma⟩ ⟨by decide, by decide, by decide +kernel⟩ ⟨by simp only [rmOf]; omega, by simp only [rmOf]; omega⟩ hl.1 rfl (rest := []) rfl (Nat.le_of_ble_eq_true rfl) ⟨Nat.zero_le _, Nat.zero_le _⟩ d_Bx_bound_121 (fun rr hrr => ?_)
        subst hrr
        refine lv_istore (lv' := [(10, .int (iI (mx ((nb 2) - (B 5)) ((B 4) - (nb 5))))), (9, .int (iI (mx ((nb 1) - (B 3)) ((B 2) - (nb 4))))), (8, .int (iI (mx ((nb 0) - (B 1)) ((B 0) - (nb 3))))), (0, .ref r), (1, .int (iI (B 0))), (2, .int (iI (B 2))), (3, .int (iI (B 4))), (4, .int (iI (B 1))), (5, .int (iI (B 3))), (6, .int (iI (B 5))), (7, .int hi)]) hx hb d_Bx_bound_124 hl (by decide) rfl (fun ls hl => ?_)
        refine lv_iload hx hb d_Bx_bound_126 (lv_at hl 2 rfl) ?_
        refine lv_iload hx hb d_Bx_bound_128 (lv_at hl 1 rfl) ?_
        refine lv_iload hx hb d_Bx_bound_130 (lv_at hl 0 rfl) ?_
        refine st_calli (np := 2) hC (c_Ma_max l (mx ((nb 1) - (B 3)) ((B 2) - (nb 4))) (mx ((nb 2) - (B 5)) ((B 4) - (nb 5))) (by have q9 : -1000000 ≤ mx ((nb 1) - (B 3)) ((B 2) - (nb 4)) ∧ mx ((nb 1) - (B 3)) ((B 2) - (nb 4)) ≤ 1000000 := mxb (by omega) (by omega); omega) (by have q9 : -1000000 ≤ mx ((nb 1) - (B 3)) ((B 2) - (nb 4)) ∧ mx ((nb 1) - (B 3)) ((B 2) - (nb 4)) ≤ 1000000 := mxb (by omega) (by omega); omega) (by have q9 : -1000000 ≤ mx ((nb 2) - (B 5)) ((B 4) - (nb 5)) ∧ mx ((nb 2) - (B 5)) ((B 4) - (nb 5)) ≤ 1000000 := mxb (by omega) (by omega); omega) (by have q9 : -1000000 ≤ mx ((nb 2) - (B 5)) ((B 4) - (nb 5)) ∧ mx ((nb 2) - (B 5)) ((B 4) - (nb 5)) ≤ 1000000 := mxb (by omega) (by omega); omega)) ⟨wl_Bx_28, wt_Ma_max, wc_Ma_max, wn_Ma⟩ ⟨by decide, by decide, by decide +kernel⟩ ⟨by simp only [rmOf]; omega, by simp only [rmOf]; omega⟩ hl.1 rfl (rest := [.int (iI (mx ((nb 0) - (B 1)) ((B 0) - (nb 3))))]) rfl (Nat.le_of_ble_eq_true rfl) ⟨Nat.zero_le _, Nat.zero_le _⟩ d_Bx_bound_132 (fun rr hrr => ?_)
        subst hrr
        refine st_calli (np := 2) hC (c_Ma_max l (mx ((nb 0) - (B 1)) ((B 0) - (nb 3))) (mx (mx ((nb 1) - (B 3)) ((B 2) - (nb 4))) (mx ((nb 2) - (B 5)) ((B 4) - (nb 5)))) (by have q9 : -1000000 ≤ mx ((nb 0) - (B 1)) ((B 0) - (nb 3)) ∧ mx ((nb 0) - (B 1)) ((B 0) - (nb 3)) ≤ 1000000 := mxb (by omega) (by omega); omega) (by have q9 : -1000000 ≤ mx ((nb 0) - (B 1)) ((B 0) - (nb 3)) ∧ mx ((nb 0) - (B 1)) ((B 0) - (nb 3)) ≤ 1000000 := mxb (by omega) (by omega); omega) (by have q9 : -1000000 ≤ mx (mx ((nb 1) - (B 3)) ((B 2) - (nb 4))) (mx ((nb 2) - (B 5)) ((B 4) - (nb 5))) ∧ mx (mx ((nb 1) - (B 3)) ((B 2) - (nb 4))) (mx ((nb 2) - (B 5)) ((B 4) - (nb 5))) ≤ 1000000 := mxb (mxb (by omega) (by omega)) (mxb (by omega) (by omega)); omega) (by have q9 : -1000000 ≤ mx (mx ((nb 1) - (B 3)) ((B 2) - (nb 4))) (mx ((nb 2) - (B 5)) ((B 4) - (nb 5))) ∧ mx (mx ((nb 1) - (B 3)) ((B 2) - (nb 4))) (mx ((nb 2) - (B 5)) ((B 4) - (nb 5))) ≤ 1000000 := mxb (mxb (by omega) (by omega)) (mxb (by omega) (by omega)); omega)) ⟨wl_Bx_28, wt_Ma_max, wc_Ma_max, wn_Ma⟩ ⟨by decide, by decide, by decide +kernel⟩ ⟨by simp only [rmOf]; omega, by simp only [rmOf]; omega⟩ hl.1 rfl (rest := []) rfl (Nat.le_of_ble_eq_true rfl) ⟨Nat.zero_le _, Nat.zero_le _⟩ d_Bx_bound_135 (fun rr hrr => ?_)
        subst hrr
        refine lv_iconst (v := 1) hx hb d_Bx_bound_138 (by decide) ?_
        refine lv_isub hx hb d_Bx_bound_139 ?_
        refine topi_eq (iI_sub (mx (mx ((nb 0) - (B 1)) ((B 0) - (nb 3))) (mx (mx ((nb 1) - (B 3)) ((B 2) - (nb 4))) (mx ((nb 2) - (B 5)) ((B 4) - (nb 5))))) 1) ?_
        exact hret _ _ _ d_Bx_bound_140 (by unfold lh; rw [if_pos h1]; exact congrArg iI lf1_BL)
      · first | contradiction | (exfalso; omega)
    · first | contradiction | (exfalso; omega)
  · skip
    refine lv_aload_n hx hb d_Bx_bound_5 rfl (lv_at hl 0 rfl) ?_
    refine rd_get hC in_Bx hK hP _ (he) rfl 0 (by decide) wf_Bx_7 rfl (v := .int (iI (nb 0))) (rfl) d_Bx_bound_6 ?_
    refine lv_iload_n hx hb d_Bx_bound_9 rfl (lv_at hl 1 rfl) ?_
    refine lv_isub hx hb d_Bx_bound_10 ?_
    refine topi_eq (iI_sub (nb 0) (B 0)) ?_
    refine lv_iload hx hb d_Bx_bound_11 (lv_at hl 4 rfl) ?_
    refine lv_aload_n hx hb d_Bx_bound_13 rfl (lv_at hl 0 rfl) ?_
    refine rd_get hC in_Bx hK hP _ (he) rfl 3 (by decide) wf_Bx_19 rfl (v := .int (iI (nb 3))) (rfl) d_Bx_bound_14 ?_
    refine lv_isub hx hb d_Bx_bound_17 ?_
    refine topi_eq (iI_sub (B 1) (nb 3)) ?_
    refine st_calli (np := 2) hC (c_Ma_max l ((nb 0) - (B 0)) ((B 1) - (nb 3)) (by omega) (by omega) (by omega) (by omega)) ⟨wl_Bx_28, wt_Ma_max, wc_Ma_max, wn_Ma⟩ ⟨by decide, by decide, by decide +kernel⟩ ⟨by simp only [rmOf]; omega, by simp only [rmOf]; omega⟩ hl.1 rfl (rest := []) rfl (Nat.le_of_ble_eq_true rfl) ⟨Nat.zero_le _, Nat.zero_le _⟩ d_Bx_bound_18 (fun rr hrr => ?_)
    subst hrr
    refine lv_goto (tgt := 40) hx hb d_Bx_bound_21 (by decide) ?_
    refine lv_istore (lv' := [(8, .int (iI (mx ((nb 0) - (B 0)) ((B 1) - (nb 3))))), (0, .ref r), (1, .int (iI (B 0))), (2, .int (iI (B 2))), (3, .int (iI (B 4))), (4, .int (iI (B 1))), (5, .int (iI (B 3))), (6, .int (iI (B 5))), (7, .int hi)]) hx hb d_Bx_bound_40 hl (by decide) rfl (fun ls hl => ?_)
    refine lv_iload hx hb d_Bx_bound_42 (lv_at hl 8 rfl) ?_
    refine lv_if_eq (tgt := 66) hx hb d_Bx_bound_44 (by decide) (fun h4 => ?_) (fun h4 => ?_)
    · first | contradiction | (exfalso; omega)
    · skip
      refine lv_aload_n hx hb d_Bx_bound_47 rfl (lv_at hl 1 rfl) ?_
      refine rd_get hC in_Bx hK hP _ (he) rfl 1 (by decide) wf_Bx_13 rfl (v := .int (iI (nb 1))) (rfl) d_Bx_bound_48 ?_
      refine lv_iload_n hx hb d_Bx_bound_51 rfl (lv_at hl 3 rfl) ?_
      refine lv_isub hx hb d_Bx_bound_52 ?_
      refine topi_eq (iI_sub (nb 1) (B 2)) ?_
      refine lv_iload hx hb d_Bx_bound_53 (lv_at hl 6 rfl) ?_
      refine lv_aload_n hx hb d_Bx_bound_55 rfl (lv_at hl 1 rfl) ?_
      refine rd_get hC in_Bx hK hP _ (he) rfl 4 (by decide) wf_Bx_22 rfl (v := .int (iI (nb 4))) (rfl) d_Bx_bound_56 ?_
      refine lv_isub hx hb d_Bx_bound_59 ?_
      refine topi_eq (iI_sub (B 3) (nb 4)) ?_
      refine st_calli (np := 2) hC (c_Ma_max l ((nb 1) - (B 2)) ((B 3) - (nb 4)) (by omega) (by omega) (by omega) (by omega)) ⟨wl_Bx_28, wt_Ma_max, wc_Ma_max, wn_Ma⟩ ⟨by decide, by decide, by decide +kernel⟩ ⟨by simp only [rmOf]; omega, by simp only [rmOf]; omega⟩ hl.1 rfl (rest := []) rfl (Nat.le_of_ble_eq_true rfl) ⟨Nat.zero_le _, Nat.zero_le _⟩ d_Bx_bound_60 (fun rr hrr => ?_)
      subst hrr
      refine lv_goto (tgt := 82) hx hb d_Bx_bound_63 (by decide) ?_
      refine lv_istore (lv' := [(9, .int (iI (mx ((nb 1) - (B 2)) ((B 3) - (nb 4))))), (8, .int (iI (mx ((nb 0) - (B 0)) ((B 1) - (nb 3))))), (0, .ref r), (1, .int (iI (B 0))), (2, .int (iI (B 2))), (3, .int (iI (B 4))), (4, .int (iI (B 1))), (5, .int (iI (B 3))), (6, .int (iI (B 5))), (7, .int hi)]) hx hb d_Bx_bound_82 hl (by decide) rfl (fun ls hl => ?_)
      refine lv_iload hx hb d_Bx_bound_84 (lv_at hl 9 rfl) ?_
      refine lv_if_eq (tgt := 108) hx hb d_Bx_bound_86 (by decide) (fun h5 => ?_) (fun h5 => ?_)
      · first | contradiction | (exfalso; omega)
      · skip
        refine lv_aload_n hx hb d_Bx_bound_89 rfl (lv_at hl 2 rfl) ?_
        refine rd_get hC in_Bx hK hP _ (he) rfl 2 (by decide) wf_Bx_16 rfl (v := .int (iI (nb 2))) (rfl) d_Bx_bound_90 ?_
        refine lv_iload_n hx hb d_Bx_bound_93 rfl (lv_at hl 5 rfl) ?_
        refine lv_isub hx hb d_Bx_bound_94 ?_
        refine topi_eq (iI_sub (nb 2) (B 4)) ?_
        refine lv_iload hx hb d_Bx_bound_95 (lv_at hl 8 rfl) ?_
        refine lv_aload_n hx hb d_Bx_bound_97 rfl (lv_at hl 2 rfl) ?_
        refine rd_get hC in_Bx hK hP _ (he) rfl 5 (by decide) wf_Bx_25 rfl (v := .int (iI (nb 5))) (rfl) d_Bx_bound_98 ?_
        refine lv_isub hx hb d_Bx_bound_101 ?_
        refine topi_eq (iI_sub (B 5) (nb 5)) ?_
        refine st_calli (np := 2) hC (c_Ma_max l ((nb 2) - (B 4)) ((B 5) - (nb 5)) (by omega) (by omega) (by omega) (by omega)) ⟨wl_Bx_28, wt_Ma_max, wc_Ma_max, wn_Ma⟩ ⟨by decide, by decide, by decide +kernel⟩ ⟨by simp only [rmOf]; omega, by simp only [rmOf]; omega⟩ hl.1 rfl (rest := []) rfl (Nat.le_of_ble_eq_true rfl) ⟨Nat.zero_le _, Nat.zero_le _⟩ d_Bx_bound_102 (fun rr hrr => ?_)
        subst hrr
        refine lv_goto (tgt := 124) hx hb d_Bx_bound_105 (by decide) ?_
        refine lv_istore (lv' := [(10, .int (iI (mx ((nb 2) - (B 4)) ((B 5) - (nb 5))))), (9, .int (iI (mx ((nb 1) - (B 2)) ((B 3) - (nb 4))))), (8, .int (iI (mx ((nb 0) - (B 0)) ((B 1) - (nb 3))))), (0, .ref r), (1, .int (iI (B 0))), (2, .int (iI (B 2))), (3, .int (iI (B 4))), (4, .int (iI (B 1))), (5, .int (iI (B 3))), (6, .int (iI (B 5))), (7, .int hi)]) hx hb d_Bx_bound_124 hl (by decide) rfl (fun ls hl => ?_)
        refine lv_iload hx hb d_Bx_bound_126 (lv_at hl 2 rfl) ?_
        refine lv_iload hx hb d_Bx_bound_128 (lv_at hl 1 rfl) ?_
        refine lv_iload hx hb d_Bx_bound_130 (lv_at hl 0 rfl) ?_
        refine st_calli (np := 2) hC (c_Ma_max l (mx ((nb 1) - (B 2)) ((B 3) - (nb 4))) (mx ((nb 2) - (B 4)) ((B 5) - (nb 5))) (by have q9 : -1000000 ≤ mx ((nb 1) - (B 2)) ((B 3) - (nb 4)) ∧ mx ((nb 1) - (B 2)) ((B 3) - (nb 4)) ≤ 1000000 := mxb (by omega) (by omega); omega) (by have q9 : -1000000 ≤ mx ((nb 1) - (B 2)) ((B 3) - (nb 4)) ∧ mx ((nb 1) - (B 2)) ((B 3) - (nb 4)) ≤ 1000000 := mxb (by omega) (by omega); omega) (by have q9 : -1000000 ≤ mx ((nb 2) - (B 4)) ((B 5) - (nb 5)) ∧ mx ((nb 2) - (B 4)) ((B 5) - (nb 5)) ≤ 1000000 := mxb (by omega) (by omega); omega) (by have q9 : -1000000 ≤ mx ((nb 2) - (B 4)) ((B 5) - (nb 5)) ∧ mx ((nb 2) - (B 4)) ((B 5) - (nb 5)) ≤ 1000000 := mxb (by omega) (by omega); omega)) ⟨wl_Bx_28, wt_Ma_max, wc_Ma_max, wn_Ma⟩ ⟨by decide, by decide, by decide +kernel⟩ ⟨by simp only [rmOf]; omega, by simp only [rmOf]; omega⟩ hl.1 rfl (rest := [.int (iI (mx ((nb 0) - (B 0)) ((B 1) - (nb 3))))]) rfl (Nat.le_of_ble_eq_true rfl) ⟨Nat.zero_le _, Nat.zero_le _⟩ d_Bx_bound_132 (fun rr hrr => ?_)
        subst hrr
        refine st_calli (np := 2) hC (c_Ma_max l (mx ((nb 0) - (B 0)) ((B 1) - (nb 3))) (mx (mx ((nb 1) - (B 2)) ((B 3) - (nb 4))) (mx ((nb 2) - (B 4)) ((B 5) - (nb 5)))) (by have q9 : -1000000 ≤ mx ((nb 0) - (B 0)) ((B 1) - (nb 3)) ∧ mx ((nb 0) - (B 0)) ((B 1) - (nb 3)) ≤ 1000000 := mxb (by omega) (by omega); omega) (by have q9 : -1000000 ≤ mx ((nb 0) - (B 0)) ((B 1) - (nb 3)) ∧ mx ((nb 0) - (B 0)) ((B 1) - (nb 3)) ≤ 1000000 := mxb (by omega) (by omega); omega) (by have q9 : -1000000 ≤ mx (mx ((nb 1) - (B 2)) ((B 3) - (nb 4))) (mx ((nb 2) - (B 4)) ((B 5) - (nb 5))) ∧ mx (mx ((nb 1) - (B 2)) ((B 3) - (nb 4))) (mx ((nb 2) - (B 4)) ((B 5) - (nb 5))) ≤ 1000000 := mxb (mxb (by omega) (by omega)) (mxb (by omega) (by omega)); omega) (by have q9 : -1000000 ≤ mx (mx ((nb 1) - (B 2)) ((B 3) - (nb 4))) (mx ((nb 2) - (B 4)) ((B 5) - (nb 5))) ∧ mx (mx ((nb 1) - (B 2)) ((B 3) - (nb 4))) (mx ((nb 2) - (B 4)) ((B 5) - (nb 5))) ≤ 1000000 := mxb (mxb (by omega) (by omega)) (mxb (by omega) (by omega)); omega)) ⟨wl_Bx_28, wt_Ma_max, wc_Ma_max, wn_Ma⟩ ⟨by decide, by decide, by decide +kernel⟩ ⟨by simp only [rmOf]; omega, by simp only [rmOf]; omega⟩ hl.1 rfl (rest := []) rfl (Nat.le_of_ble_eq_true rfl) ⟨Nat.zero_le _, Nat.zero_le _⟩ d_Bx_bound_135 (fun rr hrr => ?_)
        subst hrr
        refine lv_iconst (v := 1) hx hb d_Bx_bound_138 (by decide) ?_
        refine lv_isub hx hb d_Bx_bound_139 ?_
        refine topi_eq (iI_sub (mx (mx ((nb 0) - (B 0)) ((B 1) - (nb 3))) (mx (mx ((nb 1) - (B 2)) ((B 3) - (nb 4))) (mx ((nb 2) - (B 4)) ((B 5) - (nb 5))))) 1) ?_
        exact hret _ _ _ d_Bx_bound_140 (by unfold lh; rw [if_neg h1]; exact congrArg iI lf1_BH)
set_option maxHeartbeats 400000 in
set_option maxRecDepth 100000 in
theorem c_Pn_bound (l : Launch) (D : va_G) (cT : Nat → ClassId) (w : va_W) (hi : Int32) (nb B : Nat → Int) (d i r : Nat) (he : w[i]? = some (r, .inr (7, [.int (iI (nb 0)), .int (iI (nb 1)), .int (iI (nb 2)), .int (iI (nb 3))]))) (hn : ∀ j, -20 ≤ nb j ∧ nb j ≤ 20) (hB : ∀ j, -1300 ≤ B j ∧ B j ≤ 1300) (hbx : BX6 B) : RDi l D cT w y_Pn_bound b_Pn_bound 11 (some .int) (3 + 2 * d) (60 + 70 * d) [.ref r, .int (iI (B 0)), .int (iI (B 2)), .int (iI (B 4)), .int (iI (B 1)), .int (iI (B 3)), .int (iI (B 5)), .int hi] (fun v => v = iI (lh hi (lfL 2 nb B, lfH 2 nb B))) := by
  refine rd_enti (own := R_Pn) (by decide) rfl (Nat.le_of_ble_eq_true rfl) ?_
  intro p e s m args below meth c Q hC hK hP hret ls hl
  have hx := hC.1
  have hb := hC.2.1
  replace hl : lv_has ls 11 [(0, .ref r), (1, .int (iI (B 0))), (2, .int (iI (B 2))), (3, .int (iI (B 4))), (4, .int (iI (B 1))), (5, .int (iI (B 3))), (6, .int (iI (B 5))), (7, .int hi)] := hl
  have n0 := hn 0
  have n1 := hn 1
  have n2 := hn 2
  have n3 := hn 3
  have n4 := hn 4
  have n5 := hn 5
  have b0 := hB 0
  have b1 := hB 1
  have b2 := hB 2
  have b3 := hB 3
  have b4 := hB 4
  have b5 := hB 5
  have m00 := mul_b (hn 0) (show -3000 ≤ B 0 ∧ B 0 ≤ 3000 by have := hB 0; omega)
  have m01 := mul_b (hn 0) (show -3000 ≤ B 1 ∧ B 1 ≤ 3000 by have := hB 1; omega)
  have m02 := mul_b (hn 1) (show -3000 ≤ B 2 ∧ B 2 ≤ 3000 by have := hB 2; omega)
  have m03 := mul_b (hn 1) (show -3000 ≤ B 3 ∧ B 3 ≤ 3000 by have := hB 3; omega)
  have m04 := mul_b (hn 2) (show -3000 ≤ B 4 ∧ B 4 ≤ 3000 by have := hB 4; omega)
  have m05 := mul_b (hn 2) (show -3000 ≤ B 5 ∧ B 5 ≤ 3000 by have := hB 5; omega)
  refine lv_iload hx hb d_Pn_bound_0 (lv_at hl 7 rfl) ?_
  refine lv_if_eq (tgt := 24) hx hb d_Pn_bound_2 (by decide) (fun h1 => ?_) (fun h1 => ?_)
  · skip
    refine lv_aload_n hx hb d_Pn_bound_24 rfl (lv_at hl 0 rfl) ?_
    refine rd_get hC in_Pn hK hP _ (he) rfl 0 (by decide) wf_Pn_7 rfl (v := .int (iI (nb 0))) (rfl) d_Pn_bound_25 ?_
    refine lv_iload_n hx hb d_Pn_bound_28 rfl (lv_at hl 1 rfl) ?_
    refine lv_imul hx hb d_Pn_bound_29 ?_
    refine topi_eq (iI_mul (nb 0) (B 0)) ?_
    refine lv_aload_n hx hb d_Pn_bound_30 rfl (lv_at hl 0 rfl) ?_
    refine rd_get hC in_Pn hK hP _ (he) rfl 0 (by decide) wf_Pn_7 rfl (v := .int (iI (nb 0))) (rfl) d_Pn_bound_31 ?_
    refine lv_iload hx hb d_Pn_bound_34 (lv_at hl 4 rfl) ?_
    refine lv_imul hx hb d_Pn_bound_36 ?_
    refine topi_eq (iI_mul (nb 0) (B 1)) ?_
    refine st_calli (np := 2) hC (c_Ma_min l ((nb 0) * (B 0)) ((nb 0) * (B 1)) (by omega) (by omega) (by omega) (by omega)) ⟨wl_Pn_28, wt_Ma_min, wc_Ma_min, wn_Ma⟩ ⟨by decide, by decide, by decide +kernel⟩ ⟨by simp only [rmOf]; omega, by simp only [rmOf]; omega⟩ hl.1 rfl (rest := []) rfl (Nat.le_of_ble_eq_true rfl) ⟨Nat.zero_le _, Nat.zero_le _⟩ d_Pn_bound_37 (fun rr hrr => ?_)
    subst hrr
    refine lv_istore (lv' := [(8, .int (iI (mnI ((nb 0) * (B 0)) ((nb 0) * (B 1))))), (0, .ref r), (1, .int (iI (B 0))), (2, .int (iI (B 2))), (3, .int (iI (B 4))), (4, .int (iI (B 1))), (5, .int (iI (B 3))), (6, .int (iI (B 5))), (7, .int hi)]) hx hb d_Pn_bound_40 hl (by decide) rfl (fun ls hl => ?_)
    refine lv_iload hx hb d_Pn_bound_42 (lv_at hl 8 rfl) ?_
    refine lv_if_eq (tgt := 66) hx hb d_Pn_bound_44 (by decide) (fun h2 => ?_) (fun h2 => ?_)
    · skip
      refine lv_aload_n hx hb d_Pn_bound_66 rfl (lv_at hl 1 rfl) ?_
      refine rd_get hC in_Pn hK hP _ (he) rfl 1 (by decide) wf_Pn_13 rfl (v := .int (iI (nb 1))) (rfl) d_Pn_bound_67 ?_
      refine lv_iload_n hx hb d_Pn_bound_70 rfl (lv_at hl 3 rfl) ?_
      refine lv_imul hx hb d_Pn_bound_71 ?_
      refine topi_eq (iI_mul (nb 1) (B 2)) ?_
      refine lv_aload_n hx hb d_Pn_bound_72 rfl (lv_at hl 1 rfl) ?_
      refine rd_get hC in_Pn hK hP _ (he) rfl 1 (by decide) wf_Pn_13 rfl (v := .int (iI (nb 1))) (rfl) d_Pn_bound_73 ?_
      refine lv_iload hx hb d_Pn_bound_76 (lv_at hl 6 rfl) ?_
      refine lv_imul hx hb d_Pn_bound_78 ?_
      refine topi_eq (iI_mul (nb 1) (B 3)) ?_
      refine st_calli (np := 2) hC (c_Ma_min l ((nb 1) * (B 2)) ((nb 1) * (B 3)) (by omega) (by omega) (by omega) (by omega)) ⟨wl_Pn_28, wt_Ma_min, wc_Ma_min, wn_Ma⟩ ⟨by decide, by decide, by decide +kernel⟩ ⟨by simp only [rmOf]; omega, by simp only [rmOf]; omega⟩ hl.1 rfl (rest := []) rfl (Nat.le_of_ble_eq_true rfl) ⟨Nat.zero_le _, Nat.zero_le _⟩ d_Pn_bound_79 (fun rr hrr => ?_)
      subst hrr
      refine lv_istore (lv' := [(9, .int (iI (mnI ((nb 1) * (B 2)) ((nb 1) * (B 3))))), (8, .int (iI (mnI ((nb 0) * (B 0)) ((nb 0) * (B 1))))), (0, .ref r), (1, .int (iI (B 0))), (2, .int (iI (B 2))), (3, .int (iI (B 4))), (4, .int (iI (B 1))), (5, .int (iI (B 3))), (6, .int (iI (B 5))), (7, .int hi)]) hx hb d_Pn_bound_82 hl (by decide) rfl (fun ls hl => ?_)
      refine lv_iload hx hb d_Pn_bound_84 (lv_at hl 9 rfl) ?_
      refine lv_if_eq (tgt := 108) hx hb d_Pn_bound_86 (by decide) (fun h3 => ?_) (fun h3 => ?_)
      · skip
        refine lv_aload_n hx hb d_Pn_bound_108 rfl (lv_at hl 2 rfl) ?_
        refine rd_get hC in_Pn hK hP _ (he) rfl 2 (by decide) wf_Pn_16 rfl (v := .int (iI (nb 2))) (rfl) d_Pn_bound_109 ?_
        refine lv_iload_n hx hb d_Pn_bound_112 rfl (lv_at hl 5 rfl) ?_
        refine lv_imul hx hb d_Pn_bound_113 ?_
        refine topi_eq (iI_mul (nb 2) (B 4)) ?_
        refine lv_aload_n hx hb d_Pn_bound_114 rfl (lv_at hl 2 rfl) ?_
        refine rd_get hC in_Pn hK hP _ (he) rfl 2 (by decide) wf_Pn_16 rfl (v := .int (iI (nb 2))) (rfl) d_Pn_bound_115 ?_
        refine lv_iload hx hb d_Pn_bound_118 (lv_at hl 8 rfl) ?_
        refine lv_imul hx hb d_Pn_bound_120 ?_
        refine topi_eq (iI_mul (nb 2) (B 5)) ?_
        refine st_calli (np := 2) hC (c_Ma_min l ((nb 2) * (B 4)) ((nb 2) * (B 5)) (by omega) (by omega) (by omega) (by omega)) ⟨wl_Pn_28, wt_Ma_min, wc_Ma_min, wn_Ma⟩ ⟨by decide, by decide, by decide +kernel⟩ ⟨by simp only [rmOf]; omega, by simp only [rmOf]; omega⟩ hl.1 rfl (rest := []) rfl (Nat.le_of_ble_eq_true rfl) ⟨Nat.zero_le _, Nat.zero_le _⟩ d_Pn_bound_121 (fun rr hrr => ?_)
        subst hrr
        refine lv_istore (lv' := [(10, .int (iI (mnI ((nb 2) * (B 4)) ((nb 2) * (B 5))))), (9, .int (iI (mnI ((nb 1) * (B 2)) ((nb 1) * (B 3))))), (8, .int (iI (mnI ((nb 0) * (B 0)) ((nb 0) * (B 1))))), (0, .ref r), (1, .int (iI (B 0))), (2, .int (iI (B 2))), (3, .int (iI (B 4))), (4, .int (iI (B 1))), (5, .int (iI (B 3))), (6, .int (iI (B 5))), (7, .int hi)]) hx hb d_Pn_bound_124 hl (by decide) rfl (fun ls hl => ?_)
        refine lv_iload hx hb d_Pn_bound_126 (lv_at hl 2 rfl) ?_
        refine lv_iload hx hb d_Pn_bound_128 (lv_at hl 1 rfl) ?_
        refine lv_iadd hx hb d_Pn_bound_130 ?_
        refine topi_eq (iI_add (mnI ((nb 0) * (B 0)) ((nb 0) * (B 1))) (mnI ((nb 1) * (B 2)) ((nb 1) * (B 3)))) ?_
        refine lv_iload hx hb d_Pn_bound_131 (lv_at hl 0 rfl) ?_
        refine lv_iadd hx hb d_Pn_bound_133 ?_
        refine topi_eq (iI_add ((mnI ((nb 0) * (B 0)) ((nb 0) * (B 1))) + (mnI ((nb 1) * (B 2)) ((nb 1) * (B 3)))) (mnI ((nb 2) * (B 4)) ((nb 2) * (B 5)))) ?_
        refine lv_aload_n hx hb d_Pn_bound_134 rfl (lv_at hl 3 rfl) ?_
        refine rd_get hC in_Pn hK hP _ (he) rfl 3 (by decide) wf_Pn_19 rfl (v := .int (iI (nb 3))) (rfl) d_Pn_bound_135 ?_
        refine lv_isub hx hb d_Pn_bound_138 ?_
        refine topi_eq (iI_sub (((mnI ((nb 0) * (B 0)) ((nb 0) * (B 1))) + (mnI ((nb 1) * (B 2)) ((nb 1) * (B 3)))) + (mnI ((nb 2) * (B 4)) ((nb 2) * (B 5)))) (nb 3)) ?_
        exact hret _ _ _ d_Pn_bound_139 (by unfold lh; rw [if_pos h1]; exact congrArg iI (lf2_BL hbx))
      · first | contradiction | (exfalso; omega)
    · first | contradiction | (exfalso; omega)
  · skip
    refine lv_aload_n hx hb d_Pn_bound_5 rfl (lv_at hl 0 rfl) ?_
    refine rd_get hC in_Pn hK hP _ (he) rfl 0 (by decide) wf_Pn_7 rfl (v := .int (iI (nb 0))) (rfl) d_Pn_bound_6 ?_
    refine lv_iload_n hx hb d_Pn_bound_9 rfl (lv_at hl 1 rfl) ?_
    refine lv_imul hx hb d_Pn_bound_10 ?_
    refine topi_eq (iI_mul (nb 0) (B 0)) ?_
    refine lv_aload_n hx hb d_Pn_bound_11 rfl (lv_at hl 0 rfl) ?_
    refine rd_get hC in_Pn hK hP _ (he) rfl 0 (by decide) wf_Pn_7 rfl (v := .int (iI (nb 0))) (rfl) d_Pn_bound_12 ?_
    refine lv_iload hx hb d_Pn_bound_15 (lv_at hl 4 rfl) ?_
    refine lv_imul hx hb d_Pn_bound_17 ?_
    refine topi_eq (iI_mul (nb 0) (B 1)) ?_
    refine st_calli (np := 2) hC (c_Ma_max l ((nb 0) * (B 0)) ((nb 0) * (B 1)) (by omega) (by omega) (by omega) (by omega)) ⟨wl_Pn_22, wt_Ma_max, wc_Ma_max, wn_Ma⟩ ⟨by decide, by decide, by decide +kernel⟩ ⟨by simp only [rmOf]; omega, by simp only [rmOf]; omega⟩ hl.1 rfl (rest := []) rfl (Nat.le_of_ble_eq_true rfl) ⟨Nat.zero_le _, Nat.zero_le _⟩ d_Pn_bound_18 (fun rr hrr => ?_)
    subst hrr
    refine lv_goto (tgt := 40) hx hb d_Pn_bound_21 (by decide) ?_
    refine lv_istore (lv' := [(8, .int (iI (mx ((nb 0) * (B 0)) ((nb 0) * (B 1))))), (0, .ref r), (1, .int (iI (B 0))), (2, .int (iI (B 2))), (3, .int (iI (B 4))), (4, .int (iI (B 1))), (5, .int (iI (B 3))), (6, .int (iI (B 5))), (7, .int hi)]) hx hb d_Pn_bound_40 hl (by decide) rfl (fun ls hl => ?_)
    refine lv_iload hx hb d_Pn_bound_42 (lv_at hl 8 rfl) ?_
    refine lv_if_eq (tgt := 66) hx hb d_Pn_bound_44 (by decide) (fun h4 => ?_) (fun h4 => ?_)
    · first | contradiction | (exfalso; omega)
    · skip
      refine lv_aload_n hx hb d_Pn_bound_47 rfl (lv_at hl 1 rfl) ?_
      refine rd_get hC in_Pn hK hP _ (he) rfl 1 (by decide) wf_Pn_13 rfl (v := .int (iI (nb 1))) (rfl) d_Pn_bound_48 ?_
      refine lv_iload_n hx hb d_Pn_bound_51 rfl (lv_at hl 3 rfl) ?_
      refine lv_imul hx hb d_Pn_bound_52 ?_
      refine topi_eq (iI_mul (nb 1) (B 2)) ?_
      refine lv_aload_n hx hb d_Pn_bound_53 rfl (lv_at hl 1 rfl) ?_
      refine rd_get hC in_Pn hK hP _ (he) rfl 1 (by decide) wf_Pn_13 rfl (v := .int (iI (nb 1))) (rfl) d_Pn_bound_54 ?_
      refine lv_iload hx hb d_Pn_bound_57 (lv_at hl 6 rfl) ?_
      refine lv_imul hx hb d_Pn_bound_59 ?_
      refine topi_eq (iI_mul (nb 1) (B 3)) ?_
      refine st_calli (np := 2) hC (c_Ma_max l ((nb 1) * (B 2)) ((nb 1) * (B 3)) (by omega) (by omega) (by omega) (by omega)) ⟨wl_Pn_22, wt_Ma_max, wc_Ma_max, wn_Ma⟩ ⟨by decide, by decide, by decide +kernel⟩ ⟨by simp only [rmOf]; omega, by simp only [rmOf]; omega⟩ hl.1 rfl (rest := []) rfl (Nat.le_of_ble_eq_true rfl) ⟨Nat.zero_le _, Nat.zero_le _⟩ d_Pn_bound_60 (fun rr hrr => ?_)
      subst hrr
      refine lv_goto (tgt := 82) hx hb d_Pn_bound_63 (by decide) ?_
      refine lv_istore (lv' := [(9, .int (iI (mx ((nb 1) * (B 2)) ((nb 1) * (B 3))))), (8, .int (iI (mx ((nb 0) * (B 0)) ((nb 0) * (B 1))))), (0, .ref r), (1, .int (iI (B 0))), (2, .int (iI (B 2))), (3, .int (iI (B 4))), (4, .int (iI (B 1))), (5, .int (iI (B 3))), (6, .int (iI (B 5))), (7, .int hi)]) hx hb d_Pn_bound_82 hl (by decide) rfl (fun ls hl => ?_)
      refine lv_iload hx hb d_Pn_bound_84 (lv_at hl 9 rfl) ?_
      refine lv_if_eq (tgt := 108) hx hb d_Pn_bound_86 (by decide) (fun h5 => ?_) (fun h5 => ?_)
      · first | contradiction | (exfalso; omega)
      · skip
        refine lv_aload_n hx hb d_Pn_bound_89 rfl (lv_at hl 2 rfl) ?_
        refine rd_get hC in_Pn hK hP _ (he) rfl 2 (by decide) wf_Pn_16 rfl (v := .int (iI (nb 2))) (rfl) d_Pn_bound_90 ?_
        refine lv_iload_n hx hb d_Pn_bound_93 rfl (lv_at hl 5 rfl) ?_
        refine lv_imul hx hb d_Pn_bound_94 ?_
        refine topi_eq (iI_mul (nb 2) (B 4)) ?_
        refine lv_aload_n hx hb d_Pn_bound_95 rfl (lv_at hl 2 rfl) ?_
        refine rd_get hC in_Pn hK hP _ (he) rfl 2 (by decide) wf_Pn_16 rfl (v := .int (iI (nb 2))) (rfl) d_Pn_bound_96 ?_
        refine lv_iload hx hb d_Pn_bound_99 (lv_at hl 8 rfl) ?_
        refine lv_imul hx hb d_Pn_bound_101 ?_
        refine topi_eq (iI_mul (nb 2) (B 5)) ?_
        refine st_calli (np := 2) hC (c_Ma_max l ((nb 2) * (B 4)) ((nb 2) * (B 5)) (by omega) (by omega) (by omega) (by omega)) ⟨wl_Pn_22, wt_Ma_max, wc_Ma_max, wn_Ma⟩ ⟨by decide, by decide, by decide +kernel⟩ ⟨by simp only [rmOf]; omega, by simp only [rmOf]; omega⟩ hl.1 rfl (rest := []) rfl (Nat.le_of_ble_eq_true rfl) ⟨Nat.zero_le _, Nat.zero_le _⟩ d_Pn_bound_102 (fun rr hrr => ?_)
        subst hrr
        refine lv_goto (tgt := 124) hx hb d_Pn_bound_105 (by decide) ?_
        refine lv_istore (lv' := [(10, .int (iI (mx ((nb 2) * (B 4)) ((nb 2) * (B 5))))), (9, .int (iI (mx ((nb 1) * (B 2)) ((nb 1) * (B 3))))), (8, .int (iI (mx ((nb 0) * (B 0)) ((nb 0) * (B 1))))), (0, .ref r), (1, .int (iI (B 0))), (2, .int (iI (B 2))), (3, .int (iI (B 4))), (4, .int (iI (B 1))), (5, .int (iI (B 3))), (6, .int (iI (B 5))), (7, .int hi)]) hx hb d_Pn_bound_124 hl (by decide) rfl (fun ls hl => ?_)
        refine lv_iload hx hb d_Pn_bound_126 (lv_at hl 2 rfl) ?_
        refine lv_iload hx hb d_Pn_bound_128 (lv_at hl 1 rfl) ?_
        refine lv_iadd hx hb d_Pn_bound_130 ?_
        refine topi_eq (iI_add (mx ((nb 0) * (B 0)) ((nb 0) * (B 1))) (mx ((nb 1) * (B 2)) ((nb 1) * (B 3)))) ?_
        refine lv_iload hx hb d_Pn_bound_131 (lv_at hl 0 rfl) ?_
        refine lv_iadd hx hb d_Pn_bound_133 ?_
        refine topi_eq (iI_add ((mx ((nb 0) * (B 0)) ((nb 0) * (B 1))) + (mx ((nb 1) * (B 2)) ((nb 1) * (B 3)))) (mx ((nb 2) * (B 4)) ((nb 2) * (B 5)))) ?_
        refine lv_aload_n hx hb d_Pn_bound_134 rfl (lv_at hl 3 rfl) ?_
        refine rd_get hC in_Pn hK hP _ (he) rfl 3 (by decide) wf_Pn_19 rfl (v := .int (iI (nb 3))) (rfl) d_Pn_bound_135 ?_
        refine lv_isub hx hb d_Pn_bound_138 ?_
        refine topi_eq (iI_sub (((mx ((nb 0) * (B 0)) ((nb 0) * (B 1))) + (mx ((nb 1) * (B 2)) ((nb 1) * (B 3)))) + (mx ((nb 2) * (B 4)) ((nb 2) * (B 5)))) (nb 3)) ?_
        exact hret _ _ _ d_Pn_bound_139 (by unfold lh; rw [if_neg h1]; exact congrArg iI (lf2_BH hbx))
