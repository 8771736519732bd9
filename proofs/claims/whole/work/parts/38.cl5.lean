/-! the class: values and bounds of forms, joined and placed; then of any form -/
theorem lh_b {h : Int32} {v : Int × Int} (hb : vb v) : -100000000 ≤ lh h v ∧ lh h v ≤ 100000000 := by
  unfold lh
  split
  · exact hb.1
  · exact hb.2
theorem lh_j {kk : Nat} {hi h2 : Int32} {e1 e2 : Int × Int} (hh : hi = 0 ∨ hi = 1) (h : h2 = if kk = 5 then (if hi = 0 then 1 else 0) else hi) : jnd kk (lh hi e1) (lh h2 e2) = lh hi (cmb kk e1 e2) := by
  subst h
  rcases hh with rfl | rfl
  · show jnd kk e1.1 _ = (cmb kk e1 e2).1
    rw [← jn_L]
    congr 1
    by_cases q : kk = 5
    · rw [if_pos q, if_pos q]; rfl
    · rw [if_neg q, if_neg q]; rfl
  · show jnd kk e1.2 _ = (cmb kk e1 e2).2
    rw [← jn_H]
    congr 1
    by_cases q : kk = 5
    · rw [if_pos q, if_pos q]; rfl
    · rw [if_neg q, if_neg q]; rfl
theorem dn9_pt {nb B : Nat → Int} (h : PT6 B) (h1 : 1 ≤ nb 0) : dn 9 nb B 0 = B 0 % nb 0 := by
  show (if nb 0 ≤ B 1 - B 0 + 1 ∨ B 1 % nb 0 < B 0 % nb 0 then 0 else B 0 % nb 0) = _
  rw [← h.1]
  split
  next q =>
    have e : nb 0 = 1 := by omega
    rw [e]
    omega
  next q => rfl
theorem dn9_all {nb B : Nat → Int} (h : nb 0 ≤ B 1 - B 0 + 1 ∨ B 1 % nb 0 < B 0 % nb 0) : dn 9 nb B 0 = 0 ∧ dn 9 nb B 1 = nb 0 - 1 := by
  refine ⟨?_, ?_⟩
  · show (if nb 0 ≤ B 1 - B 0 + 1 ∨ B 1 % nb 0 < B 0 % nb 0 then 0 else B 0 % nb 0) = _
    rw [if_pos h]
  · show (if nb 0 ≤ B 1 - B 0 + 1 ∨ B 1 % nb 0 < B 0 % nb 0 then nb 0 - 1 else B 1 % nb 0) = _
    rw [if_pos h]
theorem dn9_no {nb B : Nat → Int} (h : ¬ (nb 0 ≤ B 1 - B 0 + 1 ∨ B 1 % nb 0 < B 0 % nb 0)) : dn 9 nb B 0 = B 0 % nb 0 ∧ dn 9 nb B 1 = B 1 % nb 0 := by
  refine ⟨?_, ?_⟩
  · show (if nb 0 ≤ B 1 - B 0 + 1 ∨ B 1 % nb 0 < B 0 % nb 0 then 0 else B 0 % nb 0) = _
    rw [if_neg h]
  · show (if nb 0 ≤ B 1 - B 0 + 1 ∨ B 1 % nb 0 < B 0 % nb 0 then nb 0 - 1 else B 1 % nb 0) = _
    rw [if_neg h]
theorem dn_bx {kd : Nat} {nb B : Nat → Int} (h : BX6 B) (hr : kd = 9 → 1 ≤ nb 0) : BX6 (dn kd nb B) := by
  obtain ⟨h0, h1, h2⟩ := h
  by_cases e6 : kd = 6
  · subst e6
    exact ⟨by show B 0 - nb 0 ≤ B 1 - nb 0; omega, by show B 2 - nb 1 ≤ B 3 - nb 1; omega, by show B 4 - nb 2 ≤ B 5 - nb 2; omega⟩
  · by_cases e7 : kd = 7
    · subst e7
      exact ⟨h1, h2, h0⟩
    · by_cases e8 : kd = 8
      · subst e8
        exact ⟨by show -B 1 ≤ -B 0; omega, h1, h2⟩
      · by_cases e9 : kd = 9
        · subst e9
          refine ⟨?_, h1, h2⟩
          have hn := hr rfl
          by_cases q : nb 0 ≤ B 1 - B 0 + 1 ∨ B 1 % nb 0 < B 0 % nb 0
          · rw [(dn9_all q).1, (dn9_all q).2]; omega
          · rw [(dn9_no q).1, (dn9_no q).2]; omega
        · have e : ∀ i, dn kd nb B i = B i := fun i => by unfold dn; rw [if_neg e6, if_neg e7, if_neg e8, if_neg e9]
          unfold BX6
          rw [e, e, e, e, e, e]
          exact ⟨h0, h1, h2⟩
set_option maxHeartbeats 400000 in
set_option maxRecDepth 100000 in
theorem c_Pa_joined (l : Launch) (D : va_G) (cT : Nat → ClassId) (w : va_W) (p9 : Int) (q9 : Int) (kk d i r r1 r2 : Nat) (he : w[i]? = some (r, .inr (5, [.int (nI kk), .ref r1, .ref r2]))) (hk : kk ≤ 9) (hv1 : -100000000 ≤ p9 ∧ p9 ≤ 100000000) (hv2 : -100000000 ≤ q9 ∧ q9 ≤ 100000000) : RDi l D cT w y_Pa_joined b_Pa_joined 3 (some .int) (3 + 2 * d) (60 + 70 * d) [.ref r, .int (iI p9), .int (iI q9)] (fun v => v = iI (jnd kk p9 q9)) := by
  refine rd_enti (own := R_Pa) (by decide) rfl (Nat.le_of_ble_eq_true rfl) ?_
  intro p e s m args below meth c Q hC hK hP hret ls hl
  have hx := hC.1
  have hb := hC.2.1
  replace hl : lv_has ls 3 [(0, .ref r), (1, .int (iI p9)), (2, .int (iI q9))] := hl
  refine lv_aload_n hx hb d_Pa_joined_0 rfl (lv_at hl 0 rfl) ?_
  refine rd_get hC in_Pa hK hP _ (he) rfl 0 (by decide) wf_Pa_9 rfl (v := .int (nI kk)) (rfl) d_Pa_joined_1 ?_
  refine lv_iconst (v := 3) hx hb d_Pa_joined_4 (by decide) ?_
  refine nc_ne hx hb kk 3 (by omega) (by omega) d_Pa_joined_5 (tgt := 14) (by decide) (fun h1 => ?_) (fun h1 => ?_)
  · skip
    refine lv_iload_n hx hb d_Pa_joined_14 rfl (lv_at hl 1 rfl) ?_
    refine lv_aload_n hx hb d_Pa_joined_15 rfl (lv_at hl 0 rfl) ?_
    refine rd_get hC in_Pa hK hP _ (he) rfl 0 (by decide) wf_Pa_9 rfl (v := .int (nI kk)) (rfl) d_Pa_joined_16 ?_
    refine lv_iconst (v := 5) hx hb d_Pa_joined_19 (by decide) ?_
    refine nc_ne hx hb kk 5 (by omega) (by omega) d_Pa_joined_20 (tgt := 28) (by decide) (fun h2 => ?_) (fun h2 => ?_)
    · skip
      refine lv_iload_n hx hb d_Pa_joined_28 rfl (lv_at hl 2 rfl) ?_
      refine st_calli (np := 2) hC (c_Ma_max l p9 q9 (by omega) (by omega) (by omega) (by omega)) ⟨wl_Pa_39, wt_Ma_max, wc_Ma_max, wn_Ma⟩ ⟨by decide, by decide, by decide +kernel⟩ ⟨by simp only [rmOf]; omega, by simp only [rmOf]; omega⟩ hl.1 rfl (rest := []) rfl (Nat.le_of_ble_eq_true rfl) ⟨Nat.zero_le _, Nat.zero_le _⟩ d_Pa_joined_29 (fun rr hrr => ?_)
      subst hrr
      exact hret _ _ _ d_Pa_joined_32 (by unfold jnd; rw [if_neg h1, if_neg h2])
    · skip
      refine lv_iload_n hx hb d_Pa_joined_23 rfl (lv_at hl 2 rfl) ?_
      refine lv_ineg hx hb d_Pa_joined_24 ?_
      refine topi_eq (iI_neg q9) ?_
      refine lv_goto (tgt := 29) hx hb d_Pa_joined_25 (by decide) ?_
      refine st_calli (np := 2) hC (c_Ma_max l p9 (-q9) (by omega) (by omega) (by omega) (by omega)) ⟨wl_Pa_39, wt_Ma_max, wc_Ma_max, wn_Ma⟩ ⟨by decide, by decide, by decide +kernel⟩ ⟨by simp only [rmOf]; omega, by simp only [rmOf]; omega⟩ hl.1 rfl (rest := []) rfl (Nat.le_of_ble_eq_true rfl) ⟨Nat.zero_le _, Nat.zero_le _⟩ d_Pa_joined_29 (fun rr hrr => ?_)
      subst hrr
      exact hret _ _ _ d_Pa_joined_32 (by unfold jnd; rw [if_neg h1, if_pos h2])
  · skip
    refine lv_iload_n hx hb d_Pa_joined_8 rfl (lv_at hl 1 rfl) ?_
    refine lv_iload_n hx hb d_Pa_joined_9 rfl (lv_at hl 2 rfl) ?_
    refine st_calli (np := 2) hC (c_Ma_min l p9 q9 (by omega) (by omega) (by omega) (by omega)) ⟨wl_Pa_34, wt_Ma_min, wc_Ma_min, wn_Ma⟩ ⟨by decide, by decide, by decide +kernel⟩ ⟨by simp only [rmOf]; omega, by simp only [rmOf]; omega⟩ hl.1 rfl (rest := []) rfl (Nat.le_of_ble_eq_true rfl) ⟨Nat.zero_le _, Nat.zero_le _⟩ d_Pa_joined_10 (fun rr hrr => ?_)
    subst hrr
    exact hret _ _ _ d_Pa_joined_13 (by unfold jnd; rw [if_pos h1])
set_option maxHeartbeats 400000 in
set_option maxRecDepth 100000 in
theorem c_Pa_valueAt (l : Launch) (D : va_G) (cT : Nat → ClassId) (w : va_W)  (B : Nat → Int) (kk d i r r1 r2 : Nat) (v1 v2 : Int) (he : w[i]? = some (r, .inr (5, [.int (nI kk), .ref r1, .ref r2]))) (hk : kk ≤ 9) (hV1 : VAc l D cT w y_Fo_valueAt (3 + 2 * d) (60 + 70 * d) r1 [.int (iI (B 0)), .int (iI (B 2)), .int (iI (B 4))] (fun v => v = iI v1)) (hV2 : VAc l D cT w y_Fo_valueAt (3 + 2 * d) (60 + 70 * d) r2 [.int (iI (B 0)), .int (iI (B 2)), .int (iI (B 4))] (fun v => v = iI v2)) (hv1 : -100000000 ≤ v1 ∧ v1 ≤ 100000000) (hv2 : -100000000 ≤ v2 ∧ v2 ≤ 100000000) : RDi l D cT w y_Pa_valueAt b_Pa_valueAt 4 (some .int) (3 + 2 * (d + 1)) (60 + 70 * (d + 1)) [.ref r, .int (iI (B 0)), .int (iI (B 2)), .int (iI (B 4))] (fun v => v = iI (jnd kk v1 v2)) := by
  refine rd_enti (own := R_Pa) (by decide) rfl (Nat.le_of_ble_eq_true rfl) ?_
  intro p e s m args below meth c Q hC hK hP hret ls hl
  have hx := hC.1
  have hb := hC.2.1
  replace hl : lv_has ls 4 [(0, .ref r), (1, .int (iI (B 0))), (2, .int (iI (B 2))), (3, .int (iI (B 4)))] := hl
  refine lv_aload_n hx hb d_Pa_valueAt_0 rfl (lv_at hl 0 rfl) ?_
  refine lv_aload_n hx hb d_Pa_valueAt_1 rfl (lv_at hl 0 rfl) ?_
  refine rd_get hC in_Pa hK hP _ (he) rfl 1 (by decide) wf_Pa_15 rfl (v := .ref r1) (rfl) d_Pa_valueAt_2 ?_
  refine lv_iload_n hx hb d_Pa_valueAt_5 rfl (lv_at hl 1 rfl) ?_
  refine lv_iload_n hx hb d_Pa_valueAt_6 rfl (lv_at hl 2 rfl) ?_
  refine lv_iload_n hx hb d_Pa_valueAt_7 rfl (lv_at hl 3 rfl) ?_
  refine fo_call (np := 3) hC hK hP hV1 ⟨wl_Pa_22, wq_Fo_valueAt⟩ wD_valueAt ⟨by decide, by decide, by decide +kernel⟩ ⟨by simp only [rmOf]; omega, by simp only [rmOf]; omega⟩ hl.1 rfl (rest := [.ref r]) rfl (Nat.le_of_ble_eq_true rfl) ⟨Nat.zero_le _, Nat.zero_le _⟩ d_Pa_valueAt_8 (fun rr hrr => ?_)
  subst hrr
  refine lv_aload_n hx hb d_Pa_valueAt_11 rfl (lv_at hl 0 rfl) ?_
  refine rd_get hC in_Pa hK hP _ (he) rfl 2 (by decide) wf_Pa_19 rfl (v := .ref r2) (rfl) d_Pa_valueAt_12 ?_
  refine lv_iload_n hx hb d_Pa_valueAt_15 rfl (lv_at hl 1 rfl) ?_
  refine lv_iload_n hx hb d_Pa_valueAt_16 rfl (lv_at hl 2 rfl) ?_
  refine lv_iload_n hx hb d_Pa_valueAt_17 rfl (lv_at hl 3 rfl) ?_
  refine fo_call (np := 3) hC hK hP hV2 ⟨wl_Pa_22, wq_Fo_valueAt⟩ wD_valueAt ⟨by decide, by decide, by decide +kernel⟩ ⟨by simp only [rmOf]; omega, by simp only [rmOf]; omega⟩ hl.1 rfl (rest := [.int (iI v1), .ref r]) rfl (Nat.le_of_ble_eq_true rfl) ⟨Nat.zero_le _, Nat.zero_le _⟩ d_Pa_valueAt_18 (fun rr hrr => ?_)
  subst hrr
  refine rd_call (np := 2) hC hK hP (he) rfl (c_Pa_joined l D cT w v1 v2 kk d i r r1 r2 he (by omega) hv1 hv2) rfl ⟨wl_Pa_26, wi_Pa_joined, ws_Pa_joined, wc_Pa_joined, wn_Pa⟩ ⟨by decide, by decide, by decide +kernel⟩ ⟨by simp only [rmOf]; omega, by simp only [rmOf]; omega⟩ hl.1 rfl (rest := []) rfl (Nat.le_of_ble_eq_true rfl) ⟨Nat.zero_le _, Nat.zero_le _⟩ d_Pa_valueAt_21 (fun rr hrr => ?_)
  subst hrr
  exact hret _ _ _ d_Pa_valueAt_24 (rfl)
set_option maxHeartbeats 400000 in
set_option maxRecDepth 100000 in
theorem c_Pa_bound (l : Launch) (D : va_G) (cT : Nat → ClassId) (w : va_W) (hi : Int32) (B : Nat → Int) (kk d i r r1 r2 : Nat) (e1 e2 : Int × Int) (he : w[i]? = some (r, .inr (5, [.int (nI kk), .ref r1, .ref r2]))) (hk : kk ≤ 9) (hV1 : ∀ h : Int32, (h = 0 ∨ h = 1) → VAc l D cT w y_Fo_bound (3 + 2 * d) (60 + 70 * d) r1 [.int (iI (B 0)), .int (iI (B 2)), .int (iI (B 4)), .int (iI (B 1)), .int (iI (B 3)), .int (iI (B 5)), .int h] (fun v => v = iI (lh h e1))) (hV2 : ∀ h : Int32, (h = 0 ∨ h = 1) → VAc l D cT w y_Fo_bound (3 + 2 * d) (60 + 70 * d) r2 [.int (iI (B 0)), .int (iI (B 2)), .int (iI (B 4)), .int (iI (B 1)), .int (iI (B 3)), .int (iI (B 5)), .int h] (fun v => v = iI (lh h e2))) (hv1 : vb e1) (hv2 : vb e2) (hh : hi = 0 ∨ hi = 1) : RDi l D cT w y_Pa_bound b_Pa_bound 9 (some .int) (3 + 2 * (d + 1)) (60 + 70 * (d + 1)) [.ref r, .int (iI (B 0)), .int (iI (B 2)), .int (iI (B 4)), .int (iI (B 1)), .int (iI (B 3)), .int (iI (B 5)), .int hi] (fun v => v = iI (lh hi (cmb kk e1 e2))) := by
  refine rd_enti (own := R_Pa) (by decide) rfl (Nat.le_of_ble_eq_true rfl) ?_
  intro p e s m args below meth c Q hC hK hP hret ls hl
  have hx := hC.1
  have hb := hC.2.1
  replace hl : lv_has ls 9 [(0, .ref r), (1, .int (iI (B 0))), (2, .int (iI (B 2))), (3, .int (iI (B 4))), (4, .int (iI (B 1))), (5, .int (iI (B 3))), (6, .int (iI (B 5))), (7, .int hi)] := hl
  refine lv_aload_n hx hb d_Pa_bound_0 rfl (lv_at hl 0 rfl) ?_
  refine rd_get hC in_Pa hK hP _ (he) rfl 0 (by decide) wf_Pa_9 rfl (v := .int (nI kk)) (rfl) d_Pa_bound_1 ?_
  refine lv_iconst (v := 5) hx hb d_Pa_bound_4 (by decide) ?_
  refine nc_ne hx hb kk 5 (by omega) (by omega) d_Pa_bound_5 (tgt := 12) (by decide) (fun h1 => ?_) (fun h1 => ?_)
  · skip
    refine lv_iconst (v := 0) hx hb d_Pa_bound_12 (by decide) ?_
    refine lv_iload hx hb d_Pa_bound_13 (lv_at hl 7 rfl) ?_
    refine lv_icmp_eq (tgt := 22) hx hb d_Pa_bound_15 (by decide) (fun h2 => ?_) (fun h2 => ?_)
    · skip
      refine lv_iconst (v := 0) hx hb d_Pa_bound_22 (by decide) ?_
      refine lv_istore (lv' := [(8, .int 0), (0, .ref r), (1, .int (iI (B 0))), (2, .int (iI (B 2))), (3, .int (iI (B 4))), (4, .int (iI (B 1))), (5, .int (iI (B 3))), (6, .int (iI (B 5))), (7, .int hi)]) hx hb d_Pa_bound_23 hl (by decide) rfl (fun ls hl => ?_)
      refine lv_aload_n hx hb d_Pa_bound_25 rfl (lv_at hl 1 rfl) ?_
      refine lv_aload_n hx hb d_Pa_bound_26 rfl (lv_at hl 1 rfl) ?_
      refine rd_get hC in_Pa hK hP _ (he) rfl 1 (by decide) wf_Pa_15 rfl (v := .ref r1) (rfl) d_Pa_bound_27 ?_
      refine lv_iload_n hx hb d_Pa_bound_30 rfl (lv_at hl 2 rfl) ?_
      refine lv_iload_n hx hb d_Pa_bound_31 rfl (lv_at hl 3 rfl) ?_
      refine lv_iload_n hx hb d_Pa_bound_32 rfl (lv_at hl 4 rfl) ?_
      refine lv_iload hx hb d_Pa_bound_33 (lv_at hl 5 rfl) ?_
      refine lv_iload hx hb d_Pa_bound_35 (lv_at hl 6 rfl) ?_
      refine lv_iload hx hb d_Pa_bound_37 (lv_at hl 7 rfl) ?_
      refine lv_iload hx hb d_Pa_bound_39 (lv_at hl 8 rfl) ?_
      refine fo_call (np := 7) hC hK hP (hV1 hi hh) ⟨wl_Pa_30, wq_Fo_bound⟩ wD_bound ⟨by decide, by decide, by decide +kernel⟩ ⟨by simp only [rmOf]; omega, by simp only [rmOf]; omega⟩ hl.1 rfl (rest := [.ref r]) rfl (Nat.le_of_ble_eq_true rfl) ⟨Nat.zero_le _, Nat.zero_le _⟩ d_Pa_bound_41 (fun rr hrr => ?_)
      subst hrr
      refine lv_aload_n hx hb d_Pa_bound_44 rfl (lv_at hl 1 rfl) ?_
      refine rd_get hC in_Pa hK hP _ (he) rfl 2 (by decide) wf_Pa_19 rfl (v := .ref r2) (rfl) d_Pa_bound_45 ?_
      refine lv_iload_n hx hb d_Pa_bound_48 rfl (lv_at hl 2 rfl) ?_
      refine lv_iload_n hx hb d_Pa_bound_49 rfl (lv_at hl 3 rfl) ?_
      refine lv_iload_n hx hb d_Pa_bound_50 rfl (lv_at hl 4 rfl) ?_
      refine lv_iload hx hb d_Pa_bound_51 (lv_at hl 5 rfl) ?_
      refine lv_iload hx hb d_Pa_bound_53 (lv_at hl 6 rfl) ?_
      refine lv_iload hx hb d_Pa_bound_55 (lv_at hl 7 rfl) ?_
      refine lv_iload hx hb d_Pa_bound_57 (lv_at hl 0 rfl) ?_
      refine fo_call (np := 7) hC hK hP (hV2 0 (Or.inl rfl)) ⟨wl_Pa_30, wq_Fo_bound⟩ wD_bound ⟨by decide, by decide, by decide +kernel⟩ ⟨by simp only [rmOf]; omega, by simp only [rmOf]; omega⟩ hl.1 rfl (rest := [.int (iI (lh hi e1)), .ref r]) rfl (Nat.le_of_ble_eq_true rfl) ⟨Nat.zero_le _, Nat.zero_le _⟩ d_Pa_bound_59 (fun rr hrr => ?_)
      subst hrr
      refine rd_call (np := 2) hC hK hP (he) rfl (c_Pa_joined l D cT w (lh hi e1) (lh 0 e2) kk d i r r1 r2 he (by omega) (lh_b hv1) (lh_b hv2)) rfl ⟨wl_Pa_26, wi_Pa_joined, ws_Pa_joined, wc_Pa_joined, wn_Pa⟩ ⟨by decide, by decide, by decide +kernel⟩ ⟨by simp only [rmOf]; omega, by simp only [rmOf]; omega⟩ hl.1 rfl (rest := []) rfl (Nat.le_of_ble_eq_true rfl) ⟨Nat.zero_le _, Nat.zero_le _⟩ d_Pa_bound_62 (fun rr hrr => ?_)
      subst hrr
      exact hret _ _ _ d_Pa_bound_65 (congrArg iI (lh_j hh (by rcases hh with e9 | e9 <;> subst e9 <;> first | (rw [if_pos (by assumption)]; rfl) | (rw [if_neg (by assumption)]; done) | exact absurd (by assumption : (1 : Int32) = 0) (by decide) | exact absurd (by assumption : (0 : Int32) = 1) (by decide) | exact absurd rfl (by assumption))))
    · skip
      refine lv_iconst (v := 1) hx hb d_Pa_bound_18 (by decide) ?_
      refine lv_goto (tgt := 23) hx hb d_Pa_bound_19 (by decide) ?_
      refine lv_istore (lv' := [(8, .int 1), (0, .ref r), (1, .int (iI (B 0))), (2, .int (iI (B 2))), (3, .int (iI (B 4))), (4, .int (iI (B 1))), (5, .int (iI (B 3))), (6, .int (iI (B 5))), (7, .int hi)]) hx hb d_Pa_bound_23 hl (by decide) rfl (fun ls hl => ?_)
      refine lv_aload_n hx hb d_Pa_bound_25 rfl (lv_at hl 1 rfl) ?_
      refine lv_aload_n hx hb d_Pa_bound_26 rfl (lv_at hl 1 rfl) ?_
      refine rd_get hC in_Pa hK hP _ (he) rfl 1 (by decide) wf_Pa_15 rfl (v := .ref r1) (rfl) d_Pa_bound_27 ?_
      refine lv_iload_n hx hb d_Pa_bound_30 rfl (lv_at hl 2 rfl) ?_
      refine lv_iload_n hx hb d_Pa_bound_31 rfl (lv_at hl 3 rfl) ?_
      refine lv_iload_n hx hb d_Pa_bound_32 rfl (lv_at hl 4 rfl) ?_
      refine lv_iload hx hb d_Pa_bound_33 (lv_at hl 5 rfl) ?_
      refine lv_iload hx hb d_Pa_bound_35 (lv_at hl 6 rfl) ?_
      refine lv_iload hx hb d_Pa_bound_37 (lv_at hl 7 rfl) ?_
      refine lv_iload hx hb d_Pa_bound_39 (lv_at hl 8 rfl) ?_
      refine fo_call (np := 7) hC hK hP (hV1 hi hh) ⟨wl_Pa_30, wq_Fo_bound⟩ wD_bound ⟨by decide, by decide, by decide +kernel⟩ ⟨by simp only [rmOf]; omega, by simp only [rmOf]; omega⟩ hl.1 rfl (rest := [.ref r]) rfl (Nat.le_of_ble_eq_true rfl) ⟨Nat.zero_le _, Nat.zero_le _⟩ d_Pa_bound_41 (fun rr hrr => ?_)
      subst hrr
      refine lv_aload_n hx hb d_Pa_bound_44 rfl (lv_at hl 1 rfl) ?_
      refine rd_get hC in_Pa hK hP _ (he) rfl 2 (by decide) wf_Pa_19 rfl (v := .ref r2) (rfl) d_Pa_bound_45 ?_
      refine lv_iload_n hx hb d_Pa_bound_48 rfl (lv_at hl 2 rfl) ?_
      refine lv_iload_n hx hb d_Pa_bound_49 rfl (lv_at hl 3 rfl) ?_
      refine lv_iload_n hx hb d_Pa_bound_50 rfl (lv_at hl 4 rfl) ?_
      refine lv_iload hx hb d_Pa_bound_51 (lv_at hl 5 rfl) ?_
      refine lv_iload hx hb d_Pa_bound_53 (lv_at hl 6 rfl) ?_
      refine lv_iload hx hb d_Pa_bound_55 (lv_at hl 7 rfl) ?_
      refine lv_iload hx hb d_Pa_bound_57 (lv_at hl 0 rfl) ?_
      refine fo_call (np := 7) hC hK hP (hV2 1 (Or.inr rfl)) ⟨wl_Pa_30, wq_Fo_bound⟩ wD_bound ⟨by decide, by decide, by decide +kernel⟩ ⟨by simp only [rmOf]; omega, by simp only [rmOf]; omega⟩ hl.1 rfl (rest := [.int (iI (lh hi e1)), .ref r]) rfl (Nat.le_of_ble_eq_true rfl) ⟨Nat.zero_le _, Nat.zero_le _⟩ d_Pa_bound_59 (fun rr hrr => ?_)
      subst hrr
      refine rd_call (np := 2) hC hK hP (he) rfl (c_Pa_joined l D cT w (lh hi e1) (lh 1 e2) kk d i r r1 r2 he (by omega) (lh_b hv1) (lh_b hv2)) rfl ⟨wl_Pa_26, wi_Pa_joined, ws_Pa_joined, wc_Pa_joined, wn_Pa⟩ ⟨by decide, by decide, by decide +kernel⟩ ⟨by simp only [rmOf]; omega, by simp only [rmOf]; omega⟩ hl.1 rfl (rest := []) rfl (Nat.le_of_ble_eq_true rfl) ⟨Nat.zero_le _, Nat.zero_le _⟩ d_Pa_bound_62 (fun rr hrr => ?_)
      subst hrr
      exact hret _ _ _ d_Pa_bound_65 (congrArg iI (lh_j hh (by rcases hh with e9 | e9 <;> subst e9 <;> first | (rw [if_pos (by assumption)]; rfl) | (rw [if_neg (by assumption)]; done) | exact absurd (by assumption : (1 : Int32) = 0) (by decide) | exact absurd (by assumption : (0 : Int32) = 1) (by decide) | exact absurd rfl (by assumption))))
  · skip
    refine lv_iconst (v := 1) hx hb d_Pa_bound_8 (by decide) ?_
    refine lv_goto (tgt := 13) hx hb d_Pa_bound_9 (by decide) ?_
    refine lv_iload hx hb d_Pa_bound_13 (lv_at hl 7 rfl) ?_
    refine lv_icmp_eq (tgt := 22) hx hb d_Pa_bound_15 (by decide) (fun h3 => ?_) (fun h3 => ?_)
    · skip
      refine lv_iconst (v := 0) hx hb d_Pa_bound_22 (by decide) ?_
      refine lv_istore (lv' := [(8, .int 0), (0, .ref r), (1, .int (iI (B 0))), (2, .int (iI (B 2))), (3, .int (iI (B 4))), (4, .int (iI (B 1))), (5, .int (iI (B 3))), (6, .int (iI (B 5))), (7, .int hi)]) hx hb d_Pa_bound_23 hl (by decide) rfl (fun ls hl => ?_)
      refine lv_aload_n hx hb d_Pa_bound_25 rfl (lv_at hl 1 rfl) ?_
      refine lv_aload_n hx hb d_Pa_bound_26 rfl (lv_at hl 1 rfl) ?_
      refine rd_get hC in_Pa hK hP _ (he) rfl 1 (by decide) wf_Pa_15 rfl (v := .ref r1) (rfl) d_Pa_bound_27 ?_
      refine lv_iload_n hx hb d_Pa_bound_30 rfl (lv_at hl 2 rfl) ?_
      refine lv_iload_n hx hb d_Pa_bound_31 rfl (lv_at hl 3 rfl) ?_
      refine lv_iload_n hx hb d_Pa_bound_32 rfl (lv_at hl 4 rfl) ?_
      refine lv_iload hx hb d_Pa_bound_33 (lv_at hl 5 rfl) ?_
      refine lv_iload hx hb d_Pa_bound_35 (lv_at hl 6 rfl) ?_
      refine lv_iload hx hb d_Pa_bound_37 (lv_at hl 7 rfl) ?_
      refine lv_iload hx hb d_Pa_bound_39 (lv_at hl 8 rfl) ?_
      refine fo_call (np := 7) hC hK hP (hV1 hi hh) ⟨wl_Pa_30, wq_Fo_bound⟩ wD_bound ⟨by decide, by decide, by decide +kernel⟩ ⟨by simp only [rmOf]; omega, by simp only [rmOf]; omega⟩ hl.1 rfl (rest := [.ref r]) rfl (Nat.le_of_ble_eq_true rfl) ⟨Nat.zero_le _, Nat.zero_le _⟩ d_Pa_bound_41 (fun rr hrr => ?_)
      subst hrr
      refine lv_aload_n hx hb d_Pa_bound_44 rfl (lv_at hl 1 rfl) ?_
      refine rd_get hC in_Pa hK hP _ (he) rfl 2 (by decide) wf_Pa_19 rfl (v := .ref r2) (rfl) d_Pa_bound_45 ?_
      refine lv_iload_n hx hb d_Pa_bound_48 rfl (lv_at hl 2 rfl) ?_
      refine lv_iload_n hx hb d_Pa_bound_49 rfl (lv_at hl 3 rfl) ?_
      refine lv_iload_n hx hb d_Pa_bound_50 rfl (lv_at hl 4 rfl) ?_
      refine lv_iload hx hb d_Pa_bound_51 (lv_at hl 5 rfl) ?_
      refine lv_iload hx hb d_Pa_bound_53 (lv_at hl 6 rfl) ?_
      refine lv_iload hx hb d_Pa_bound_55 (lv_at hl 7 rfl) ?_
      refine lv_iload hx hb d_Pa_bound_57 (lv_at hl 0 rfl) ?_
      refine fo_call (np := 7) hC hK hP (hV2 0 (Or.inl rfl)) ⟨wl_Pa_30, wq_Fo_bound⟩ wD_bound ⟨by decide, by decide, by decide +kernel⟩ ⟨by simp only [rmOf]; omega, by simp only [rmOf]; omega⟩ hl.1 rfl (rest := [.int (iI (lh hi e1)), .ref r]) rfl (Nat.le_of_ble_eq_true rfl) ⟨Nat.zero_le _, Nat.zero_le _⟩ d_Pa_bound_59 (fun rr hrr => ?_)
      subst hrr
      refine rd_call (np := 2) hC hK hP (he) rfl (c_Pa_joined l D cT w (lh hi e1) (lh 0 e2) kk d i r r1 r2 he (by omega) (lh_b hv1) (lh_b hv2)) rfl ⟨wl_Pa_26, wi_Pa_joined, ws_Pa_joined, wc_Pa_joined, wn_Pa⟩ ⟨by decide, by decide, by decide +kernel⟩ ⟨by simp only [rmOf]; omega, by simp only [rmOf]; omega⟩ hl.1 rfl (rest := []) rfl (Nat.le_of_ble_eq_true rfl) ⟨Nat.zero_le _, Nat.zero_le _⟩ d_Pa_bound_62 (fun rr hrr => ?_)
      subst hrr
      exact hret _ _ _ d_Pa_bound_65 (congrArg iI (lh_j hh (by rcases hh with e9 | e9 <;> subst e9 <;> first | (rw [if_pos (by assumption)]; rfl) | (rw [if_neg (by assumption)]; done) | exact absurd (by assumption : (1 : Int32) = 0) (by decide) | exact absurd (by assumption : (0 : Int32) = 1) (by decide) | exact absurd rfl (by assumption))))
    · skip
      refine lv_iconst (v := 1) hx hb d_Pa_bound_18 (by decide) ?_
      refine lv_goto (tgt := 23) hx hb d_Pa_bound_19 (by decide) ?_
      refine lv_istore (lv' := [(8, .int 1), (0, .ref r), (1, .int (iI (B 0))), (2, .int (iI (B 2))), (3, .int (iI (B 4))), (4, .int (iI (B 1))), (5, .int (iI (B 3))), (6, .int (iI (B 5))), (7, .int hi)]) hx hb d_Pa_bound_23 hl (by decide) rfl (fun ls hl => ?_)
      refine lv_aload_n hx hb d_Pa_bound_25 rfl (lv_at hl 1 rfl) ?_
      refine lv_aload_n hx hb d_Pa_bound_26 rfl (lv_at hl 1 rfl) ?_
      refine rd_get hC in_Pa hK hP _ (he) rfl 1 (by decide) wf_Pa_15 rfl (v := .ref r1) (rfl) d_Pa_bound_27 ?_
      refine lv_iload_n hx hb d_Pa_bound_30 rfl (lv_at hl 2 rfl) ?_
      refine lv_iload_n hx hb d_Pa_bound_31 rfl (lv_at hl 3 rfl) ?_
      refine lv_iload_n hx hb d_Pa_bound_32 rfl (lv_at hl 4 rfl) ?_
      refine lv_iload hx hb d_Pa_bound_33 (lv_at hl 5 rfl) ?_
      refine lv_iload hx hb d_Pa_bound_35 (lv_at hl 6 rfl) ?_
      refine lv_iload hx hb d_Pa_bound_37 (lv_at hl 7 rfl) ?_
      refine lv_iload hx hb d_Pa_bound_39 (lv_at hl 8 rfl) ?_
      refine fo_call (np := 7) hC hK hP (hV1 hi hh) ⟨wl_Pa_30, wq_Fo_bound⟩ wD_bound ⟨by decide, by decide, by decide +kernel⟩ ⟨by simp only [rmOf]; omega, by simp only [rmOf]; omega⟩ hl.1 rfl (rest := [.ref r]) rfl (Nat.le_of_ble_eq_true rfl) ⟨Nat.zero_le _, Nat.zero_le _⟩ d_Pa_bound_41 (fun rr hrr => ?_)
      subst hrr
      refine lv_aload_n hx hb d_Pa_bound_44 rfl (lv_at hl 1 rfl) ?_
      refine rd_get hC in_Pa hK hP _ (he) rfl 2 (by decide) wf_Pa_19 rfl (v := .ref r2) (rfl) d_Pa_bound_45 ?_
      refine lv_iload_n hx hb d_Pa_bound_48 rfl (lv_at hl 2 rfl) ?_
      refine lv_iload_n hx hb d_Pa_bound_49 rfl (lv_at hl 3 rfl) ?_
      refine lv_iload_n hx hb d_Pa_bound_50 rfl (lv_at hl 4 rfl) ?_
      refine lv_iload hx hb d_Pa_bound_51 (lv_at hl 5 rfl) ?_
      refine lv_iload hx hb d_Pa_bound_53 (lv_at hl 6 rfl) ?_
      refine lv_iload hx hb d_Pa_bound_55 (lv_at hl 7 rfl) ?_
      refine lv_iload hx hb d_Pa_bound_57 (lv_at hl 0 rfl) ?_
      refine fo_call (np := 7) hC hK hP (hV2 1 (Or.inr rfl)) ⟨wl_Pa_30, wq_Fo_bound⟩ wD_bound ⟨by decide, by decide, by decide +kernel⟩ ⟨by simp only [rmOf]; omega, by simp only [rmOf]; omega⟩ hl.1 rfl (rest := [.int (iI (lh hi e1)), .ref r]) rfl (Nat.le_of_ble_eq_true rfl) ⟨Nat.zero_le _, Nat.zero_le _⟩ d_Pa_bound_59 (fun rr hrr => ?_)
      subst hrr
      refine rd_call (np := 2) hC hK hP (he) rfl (c_Pa_joined l D cT w (lh hi e1) (lh 1 e2) kk d i r r1 r2 he (by omega) (lh_b hv1) (lh_b hv2)) rfl ⟨wl_Pa_26, wi_Pa_joined, ws_Pa_joined, wc_Pa_joined, wn_Pa⟩ ⟨by decide, by decide, by decide +kernel⟩ ⟨by simp only [rmOf]; omega, by simp only [rmOf]; omega⟩ hl.1 rfl (rest := []) rfl (Nat.le_of_ble_eq_true rfl) ⟨Nat.zero_le _, Nat.zero_le _⟩ d_Pa_bound_62 (fun rr hrr => ?_)
      subst hrr
      exact hret _ _ _ d_Pa_bound_65 (congrArg iI (lh_j hh (by rcases hh with e9 | e9 <;> subst e9 <;> first | (rw [if_pos (by assumption)]; rfl) | (rw [if_neg (by assumption)]; done) | exact absurd (by assumption : (1 : Int32) = 0) (by decide) | exact absurd (by assumption : (0 : Int32) = 1) (by decide) | exact absurd rfl (by assumption))))
set_option maxHeartbeats 400000 in
set_option maxRecDepth 100000 in
theorem c_Pl_modulo (l : Launch) (D : va_G) (cT : Nat → ClassId) (w : va_W) (x9 : Int) (nb : Nat → Int) (kk d i r r1 : Nat) (he : w[i]? = some (r, .inr (6, [.int (nI kk), .int (iI (nb 0)), .int (iI (nb 1)), .int (iI (nb 2)), .ref r1]))) (hn1 : 1 ≤ nb 0) (hn2 : nb 0 ≤ 20) (hx1 : -1000000 ≤ x9) (hx2 : x9 ≤ 1000000) : RDi l D cT w y_Pl_modulo b_Pl_modulo 2 (some .int) (3 + 2 * d) (60 + 70 * d) [.ref r, .int (iI x9)] (fun v => v = iI (x9 % nb 0)) := by
  refine rd_enti (own := R_Pl) (by decide) rfl (Nat.le_of_ble_eq_true rfl) ?_
  intro p e s m args below meth c Q hC hK hP hret ls hl
  have hx := hC.1
  have hb := hC.2.1
  replace hl : lv_has ls 2 [(0, .ref r), (1, .int (iI x9))] := hl
  refine lv_aload_n hx hb d_Pl_modulo_0 rfl (lv_at hl 0 rfl) ?_
  refine rd_get hC in_Pl hK hP _ (he) rfl 1 (by decide) wf_Pl_15 rfl (v := .int (iI (nb 0))) (rfl) d_Pl_modulo_1 ?_
  refine lv_iconst (v := 1) hx hb d_Pl_modulo_4 (by decide) ?_
  refine zc_ge hx hb (nb 0) 1 (by omega) (by omega) (by omega) (by omega) d_Pl_modulo_5 (tgt := 12) (by decide) (fun h1 => ?_) (fun h1 => ?_)
  · skip
    refine lv_iload_n hx hb d_Pl_modulo_12 rfl (lv_at hl 1 rfl) ?_
    refine lv_aload_n hx hb d_Pl_modulo_13 rfl (lv_at hl 0 rfl) ?_
    refine rd_get hC in_Pl hK hP _ (he) rfl 1 (by decide) wf_Pl_15 rfl (v := .int (iI (nb 0))) (rfl) d_Pl_modulo_14 ?_
    refine st_calli (np := 2) hC (c_Ma_floorMod l x9 (nb 0) (by omega) (by omega) (by omega) (by omega)) ⟨wl_Pl_43, wt_Ma_floorMod, wc_Ma_floorMod, wn_Ma⟩ ⟨by decide, by decide, by decide +kernel⟩ ⟨by simp only [rmOf]; omega, by simp only [rmOf]; omega⟩ hl.1 rfl (rest := []) rfl (Nat.le_of_ble_eq_true rfl) ⟨Nat.zero_le _, Nat.zero_le _⟩ d_Pl_modulo_17 (fun rr hrr => ?_)
    subst hrr
    exact hret _ _ _ d_Pl_modulo_20 (rfl)
  · skip
    refine lv_iconst (v := 0) hx hb d_Pl_modulo_8 (by decide) ?_
    refine lv_goto (tgt := 20) hx hb d_Pl_modulo_9 (by decide) ?_
    exact hret _ _ _ d_Pl_modulo_20 (by exfalso; omega)
set_option maxHeartbeats 400000 in
set_option maxRecDepth 100000 in
theorem c_Pl_valueAt (l : Launch) (D : va_G) (cT : Nat → ClassId) (w : va_W)  (nb B : Nat → Int) (kk d i r r1 : Nat) (v1 : Int) (he : w[i]? = some (r, .inr (6, [.int (nI kk), .int (iI (nb 0)), .int (iI (nb 1)), .int (iI (nb 2)), .ref r1]))) (hk1 : 6 ≤ kk) (hk2 : kk ≤ 9) (hn : ∀ j, -20 ≤ nb j ∧ nb j ≤ 20) (hB : ∀ j, -1300 ≤ B j ∧ B j ≤ 1300) (h9 : kk = 9 → 1 ≤ nb 0) (hpt : PT6 B) (hV : VAc l D cT w y_Fo_valueAt (3 + 2 * d) (60 + 70 * d) r1 [.int (iI (dn kk nb B 0)), .int (iI (dn kk nb B 2)), .int (iI (dn kk nb B 4))] (fun v => v = iI v1)) : RDi l D cT w y_Pl_valueAt b_Pl_valueAt 4 (some .int) (3 + 2 * (d + 1)) (60 + 70 * (d + 1)) [.ref r, .int (iI (B 0)), .int (iI (B 2)), .int (iI (B 4))] (fun v => v = iI v1) := by
  refine rd_enti (own := R_Pl) (by decide) rfl (Nat.le_of_ble_eq_true rfl) ?_
  intro p e s m args below meth c Q hC hK hP hret ls hl
  have hx := hC.1
  have hb := hC.2.1
  replace hl : lv_has ls 4 [(0, .ref r), (1, .int (iI (B 0))), (2, .int (iI (B 2))), (3, .int (iI (B 4)))] := hl
  have n0 := hn 0
  have b0 := hB 0
  have b1 := hB 1
  have b2 := hB 2
  have b3 := hB 3
  have b4 := hB 4
  have b5 := hB 5
  refine lv_aload_n hx hb d_Pl_valueAt_0 rfl (lv_at hl 0 rfl) ?_
  refine rd_get hC in_Pl hK hP _ (he) rfl 0 (by decide) wf_Pl_9 rfl (v := .int (nI kk)) (rfl) d_Pl_valueAt_1 ?_
  by_cases h1_0 : kk = 6
  · have ev : (nI kk).toInt = 6 := by rw [h1_0]; rfl
    refine lv_tableIn (tgt := 32) hx hb d_Pl_valueAt_4 (by rw [ev]; decide) (by rw [ev]; decide) (by rw [ev]; rfl) (by decide) ?_
    obtain rfl : kk = 6 := by omega
    refine lv_aload_n hx hb d_Pl_valueAt_32 rfl (lv_at hl 0 rfl) ?_
    refine rd_get hC in_Pl hK hP _ (he) rfl 4 (by decide) wf_Pl_24 rfl (v := .ref r1) (rfl) d_Pl_valueAt_33 ?_
    refine lv_iload_n hx hb d_Pl_valueAt_36 rfl (lv_at hl 1 rfl) ?_
    refine lv_aload_n hx hb d_Pl_valueAt_37 rfl (lv_at hl 0 rfl) ?_
    refine rd_get hC in_Pl hK hP _ (he) rfl 1 (by decide) wf_Pl_15 rfl (v := .int (iI (nb 0))) (rfl) d_Pl_valueAt_38 ?_
    refine lv_isub hx hb d_Pl_valueAt_41 ?_
    refine topi_eq (iI_sub (B 0) (nb 0)) ?_
    refine lv_iload_n hx hb d_Pl_valueAt_42 rfl (lv_at hl 2 rfl) ?_
    refine lv_aload_n hx hb d_Pl_valueAt_43 rfl (lv_at hl 0 rfl) ?_
    refine rd_get hC in_Pl hK hP _ (he) rfl 2 (by decide) wf_Pl_18 rfl (v := .int (iI (nb 1))) (rfl) d_Pl_valueAt_44 ?_
    refine lv_isub hx hb d_Pl_valueAt_47 ?_
    refine topi_eq (iI_sub (B 2) (nb 1)) ?_
    refine lv_iload_n hx hb d_Pl_valueAt_48 rfl (lv_at hl 3 rfl) ?_
    refine lv_aload_n hx hb d_Pl_valueAt_49 rfl (lv_at hl 0 rfl) ?_
    refine rd_get hC in_Pl hK hP _ (he) rfl 3 (by decide) wf_Pl_21 rfl (v := .int (iI (nb 2))) (rfl) d_Pl_valueAt_50 ?_
    refine lv_isub hx hb d_Pl_valueAt_53 ?_
    refine topi_eq (iI_sub (B 4) (nb 2)) ?_
    refine fo_call (np := 3) hC hK hP hV ⟨wl_Pl_28, wq_Fo_valueAt⟩ wD_valueAt ⟨by decide, by decide, by decide +kernel⟩ ⟨by simp only [rmOf]; omega, by simp only [rmOf]; omega⟩ hl.1 rfl (rest := []) rfl (Nat.le_of_ble_eq_true rfl) ⟨Nat.zero_le _, Nat.zero_le _⟩ d_Pl_valueAt_54 (fun rr hrr => ?_)
    subst hrr
    exact hret _ _ _ d_Pl_valueAt_57 (rfl)
  by_cases h1_1 : kk = 7
  · have ev : (nI kk).toInt = 7 := by rw [h1_1]; rfl
    refine lv_tableIn (tgt := 58) hx hb d_Pl_valueAt_4 (by rw [ev]; decide) (by rw [ev]; decide) (by rw [ev]; rfl) (by decide) ?_
    obtain rfl : kk = 7 := by omega
    refine lv_aload_n hx hb d_Pl_valueAt_58 rfl (lv_at hl 0 rfl) ?_
    refine rd_get hC in_Pl hK hP _ (he) rfl 4 (by decide) wf_Pl_24 rfl (v := .ref r1) (rfl) d_Pl_valueAt_59 ?_
    refine lv_iload_n hx hb d_Pl_valueAt_62 rfl (lv_at hl 2 rfl) ?_
    refine lv_iload_n hx hb d_Pl_valueAt_63 rfl (lv_at hl 3 rfl) ?_
    refine lv_iload_n hx hb d_Pl_valueAt_64 rfl (lv_at hl 1 rfl) ?_
    refine fo_call (np := 3) hC hK hP hV ⟨wl_Pl_28, wq_Fo_valueAt⟩ wD_valueAt ⟨by decide, by decide, by decide +kernel⟩ ⟨by simp only [rmOf]; omega, by simp only [rmOf]; omega⟩ hl.1 rfl (rest := []) rfl (Nat.le_of_ble_eq_true rfl) ⟨Nat.zero_le _, Nat.zero_le _⟩ d_Pl_valueAt_65 (fun rr hrr => ?_)
    subst hrr
    exact hret _ _ _ d_Pl_valueAt_68 (rfl)
  by_cases h1_2 : kk = 8
  · have ev : (nI kk).toInt = 8 := by rw [h1_2]; rfl
    refine lv_tableIn (tgt := 69) hx hb d_Pl_valueAt_4 (by rw [ev]; decide) (by rw [ev]; decide) (by rw [ev]; rfl) (by decide) ?_
    obtain rfl : kk = 8 := by omega
    have e8 : dn 8 nb B 0 = -B 0 := (show -B 1 = -B 0 by rw [hpt.1])
    rw [e8] at hV
    refine lv_aload_n hx hb d_Pl_valueAt_69 rfl (lv_at hl 0 rfl) ?_
    refine rd_get hC in_Pl hK hP _ (he) rfl 4 (by decide) wf_Pl_24 rfl (v := .ref r1) (rfl) d_Pl_valueAt_70 ?_
    refine lv_iload_n hx hb d_Pl_valueAt_73 rfl (lv_at hl 1 rfl) ?_
    refine lv_ineg hx hb d_Pl_valueAt_74 ?_
    refine topi_eq (iI_neg (B 0)) ?_
    refine lv_iload_n hx hb d_Pl_valueAt_75 rfl (lv_at hl 2 rfl) ?_
    refine lv_iload_n hx hb d_Pl_valueAt_76 rfl (lv_at hl 3 rfl) ?_
    refine fo_call (np := 3) hC hK hP hV ⟨wl_Pl_28, wq_Fo_valueAt⟩ wD_valueAt ⟨by decide, by decide, by decide +kernel⟩ ⟨by simp only [rmOf]; omega, by simp only [rmOf]; omega⟩ hl.1 rfl (rest := []) rfl (Nat.le_of_ble_eq_true rfl) ⟨Nat.zero_le _, Nat.zero_le _⟩ d_Pl_valueAt_77 (fun rr hrr => ?_)
    subst hrr
    exact hret _ _ _ d_Pl_valueAt_80 (rfl)
  have ev : (nI kk).toInt < 6 ∨ 8 < (nI kk).toInt := by
    rw [show (nI kk).toInt = (↑kk : Int) from iI_toInt (z := (↑kk : Int)) (by omega) (by omega)]
    omega
  refine lv_tableOut (tgt := 81) hx hb d_Pl_valueAt_4 ev (by decide) ?_
  obtain rfl : kk = 9 := by omega
  have n9 := h9 rfl
  have e9 := dn9_pt hpt n9
  rw [e9] at hV
  refine lv_aload_n hx hb d_Pl_valueAt_81 rfl (lv_at hl 0 rfl) ?_
  refine rd_get hC in_Pl hK hP _ (he) rfl 4 (by decide) wf_Pl_24 rfl (v := .ref r1) (rfl) d_Pl_valueAt_82 ?_
  refine lv_aload_n hx hb d_Pl_valueAt_85 rfl (lv_at hl 0 rfl) ?_
  refine lv_iload_n hx hb d_Pl_valueAt_86 rfl (lv_at hl 1 rfl) ?_
  refine rd_call (np := 1) hC hK hP (he) rfl (c_Pl_modulo l D cT w (B 0) nb _ d i r r1 he (by omega) (by omega) (by omega) (by omega)) rfl ⟨wl_Pl_32, wi_Pl_modulo, ws_Pl_modulo, wc_Pl_modulo, wn_Pl⟩ ⟨by decide, by decide, by decide +kernel⟩ ⟨by simp only [rmOf]; omega, by simp only [rmOf]; omega⟩ hl.1 rfl (rest := [.ref r1]) rfl (Nat.le_of_ble_eq_true rfl) ⟨Nat.zero_le _, Nat.zero_le _⟩ d_Pl_valueAt_87 (fun rr hrr => ?_)
  subst hrr
  refine lv_iload_n hx hb d_Pl_valueAt_90 rfl (lv_at hl 2 rfl) ?_
  refine lv_iload_n hx hb d_Pl_valueAt_91 rfl (lv_at hl 3 rfl) ?_
  refine fo_call (np := 3) hC hK hP hV ⟨wl_Pl_28, wq_Fo_valueAt⟩ wD_valueAt ⟨by decide, by decide, by decide +kernel⟩ ⟨by simp only [rmOf]; omega, by simp only [rmOf]; omega⟩ hl.1 rfl (rest := []) rfl (Nat.le_of_ble_eq_true rfl) ⟨Nat.zero_le _, Nat.zero_le _⟩ d_Pl_valueAt_92 (fun rr hrr => ?_)
  subst hrr
  exact hret _ _ _ d_Pl_valueAt_95 (rfl)
set_option maxHeartbeats 400000 in
set_option maxRecDepth 100000 in
theorem c_Pl_repeatedBound (l : Launch) (D : va_G) (cT : Nat → ClassId) (w : va_W) (hi : Int32) (nb B : Nat → Int) (kk d i r r1 : Nat) (v1 : Int) (he : w[i]? = some (r, .inr (6, [.int (nI kk), .int (iI (nb 0)), .int (iI (nb 1)), .int (iI (nb 2)), .ref r1]))) (hn1 : 1 ≤ nb 0) (hn2 : nb 0 ≤ 20) (hB : ∀ j, -1300 ≤ B j ∧ B j ≤ 1300) (hV : VAc l D cT w y_Fo_bound (3 + 2 * d) (60 + 70 * d) r1 [.int (iI (dn 9 nb B 0)), .int (iI (dn 9 nb B 2)), .int (iI (dn 9 nb B 4)), .int (iI (dn 9 nb B 1)), .int (iI (dn 9 nb B 3)), .int (iI (dn 9 nb B 5)), .int hi] (fun v => v = iI v1)) : RDi l D cT w y_Pl_repeatedBound b_Pl_repeatedBound 10 (some .int) (3 + 2 * d + 1) (60 + 70 * d + 39) [.ref r, .int (iI (B 0)), .int (iI (B 2)), .int (iI (B 4)), .int (iI (B 1)), .int (iI (B 3)), .int (iI (B 5)), .int hi] (fun v => v = iI v1) := by
  refine rd_enti (own := R_Pl) (by decide) rfl (Nat.le_of_ble_eq_true rfl) ?_
  intro p e s m args below meth c Q hC hK hP hret ls hl
  have hx := hC.1
  have hb := hC.2.1
  replace hl : lv_has ls 10 [(0, .ref r), (1, .int (iI (B 0))), (2, .int (iI (B 2))), (3, .int (iI (B 4))), (4, .int (iI (B 1))), (5, .int (iI (B 3))), (6, .int (iI (B 5))), (7, .int hi)] := hl
  have b0 := hB 0
  have b1 := hB 1
  have b2 := hB 2
  have b3 := hB 3
  have b4 := hB 4
  have b5 := hB 5
  have m0 := Int.emod_nonneg (B 0) (show nb 0 ≠ 0 by omega)
  have m1 := Int.emod_nonneg (B 1) (show nb 0 ≠ 0 by omega)
  have k0 := Int.emod_lt_of_pos (B 0) (show 0 < nb 0 by omega)
  have k1 := Int.emod_lt_of_pos (B 1) (show 0 < nb 0 by omega)
  refine lv_aload_n hx hb d_Pl_repeatedBound_0 rfl (lv_at hl 0 rfl) ?_
  refine lv_iload_n hx hb d_Pl_repeatedBound_1 rfl (lv_at hl 1 rfl) ?_
  refine rd_call (np := 1) hC hK hP (he) rfl (c_Pl_modulo l D cT w (B 0) nb _ d i r r1 he (by omega) (by omega) (by omega) (by omega)) rfl ⟨wl_Pl_32, wi_Pl_modulo, ws_Pl_modulo, wc_Pl_modulo, wn_Pl⟩ ⟨by decide, by decide, by decide +kernel⟩ ⟨by simp only [rmOf]; omega, by simp only [rmOf]; omega⟩ hl.1 rfl (rest := []) rfl (Nat.le_of_ble_eq_true rfl) ⟨Nat.zero_le _, Nat.zero_le _⟩ d_Pl_repeatedBound_2 (fun rr hrr => ?_)
  subst hrr
  refine lv_istore (lv' := [(8, .int (iI ((B 0) % (nb 0)))), (0, .ref r), (1, .int (iI (B 0))), (2, .int (iI (B 2))), (3, .int (iI (B 4))), (4, .int (iI (B 1))), (5, .int (iI (B 3))), (6, .int (iI (B 5))), (7, .int hi)]) hx hb d_Pl_repeatedBound_5 hl (by decide) rfl (fun ls hl => ?_)
  refine lv_aload_n hx hb d_Pl_repeatedBound_7 rfl (lv_at hl 1 rfl) ?_
  refine lv_iload hx hb d_Pl_repeatedBound_8 (lv_at hl 5 rfl) ?_
  refine rd_call (np := 1) hC hK hP (he) rfl (c_Pl_modulo l D cT w (B 1) nb _ d i r r1 he (by omega) (by omega) (by omega) (by omega)) rfl ⟨wl_Pl_32, wi_Pl_modulo, ws_Pl_modulo, wc_Pl_modulo, wn_Pl⟩ ⟨by decide, by decide, by decide +kernel⟩ ⟨by simp only [rmOf]; omega, by simp only [rmOf]; omega⟩ hl.1 rfl (rest := []) rfl (Nat.le_of_ble_eq_true rfl) ⟨Nat.zero_le _, Nat.zero_le _⟩ d_Pl_repeatedBound_10 (fun rr hrr => ?_)
  subst hrr
  refine lv_istore (lv' := [(9, .int (iI ((B 1) % (nb 0)))), (8, .int (iI ((B 0) % (nb 0)))), (0, .ref r), (1, .int (iI (B 0))), (2, .int (iI (B 2))), (3, .int (iI (B 4))), (4, .int (iI (B 1))), (5, .int (iI (B 3))), (6, .int (iI (B 5))), (7, .int hi)]) hx hb d_Pl_repeatedBound_13 hl (by decide) rfl (fun ls hl => ?_)
  refine lv_iload hx hb d_Pl_repeatedBound_15 (lv_at hl 6 rfl) ?_
  refine lv_iload_n hx hb d_Pl_repeatedBound_17 rfl (lv_at hl 3 rfl) ?_
  refine lv_isub hx hb d_Pl_repeatedBound_18 ?_
  refine topi_eq (iI_sub (B 1) (B 0)) ?_
  refine lv_iconst (v := 1) hx hb d_Pl_repeatedBound_19 (by decide) ?_
  refine lv_iadd hx hb d_Pl_repeatedBound_20 ?_
  refine topi_eq (iI_add ((B 1) - (B 0)) 1) ?_
  refine lv_aload_n hx hb d_Pl_repeatedBound_21 rfl (lv_at hl 2 rfl) ?_
  refine rd_get hC in_Pl hK hP _ (he) rfl 1 (by decide) wf_Pl_15 rfl (v := .int (iI (nb 0))) (rfl) d_Pl_repeatedBound_22 ?_
  refine zc_ge hx hb (((B 1) - (B 0)) + 1) (nb 0) (by omega) (by omega) (by omega) (by omega) d_Pl_repeatedBound_25 (tgt := 35) (by decide) (fun h1 => ?_) (fun h1 => ?_)
  · skip
    refine lv_iconst (v := 0) hx hb d_Pl_repeatedBound_35 (by decide) ?_
    refine lv_istore (lv' := [(8, .int 0), (9, .int (iI ((B 1) % (nb 0)))), (0, .ref r), (1, .int (iI (B 0))), (2, .int (iI (B 2))), (3, .int (iI (B 4))), (4, .int (iI (B 1))), (5, .int (iI (B 3))), (6, .int (iI (B 5))), (7, .int hi)]) hx hb d_Pl_repeatedBound_36 hl (by decide) rfl (fun ls hl => ?_)
    refine lv_aload_n hx hb d_Pl_repeatedBound_38 rfl (lv_at hl 2 rfl) ?_
    refine rd_get hC in_Pl hK hP _ (he) rfl 1 (by decide) wf_Pl_15 rfl (v := .int (iI (nb 0))) (rfl) d_Pl_repeatedBound_39 ?_
    refine lv_iconst (v := 1) hx hb d_Pl_repeatedBound_42 (by decide) ?_
    refine lv_isub hx hb d_Pl_repeatedBound_43 ?_
    refine topi_eq (iI_sub (nb 0) 1) ?_
    refine lv_istore (lv' := [(9, .int (iI ((nb 0) - 1))), (8, .int 0), (0, .ref r), (1, .int (iI (B 0))), (2, .int (iI (B 2))), (3, .int (iI (B 4))), (4, .int (iI (B 1))), (5, .int (iI (B 3))), (6, .int (iI (B 5))), (7, .int hi)]) hx hb d_Pl_repeatedBound_44 hl (by decide) rfl (fun ls hl => ?_)
    refine lv_aload_n hx hb d_Pl_repeatedBound_46 rfl (lv_at hl 2 rfl) ?_
    refine rd_get hC in_Pl hK hP _ (he) rfl 4 (by decide) wf_Pl_24 rfl (v := .ref r1) (rfl) d_Pl_repeatedBound_47 ?_
    refine lv_iload hx hb d_Pl_repeatedBound_50 (lv_at hl 1 rfl) ?_
    refine lv_iload_n hx hb d_Pl_repeatedBound_52 rfl (lv_at hl 4 rfl) ?_
    refine lv_iload_n hx hb d_Pl_repeatedBound_53 rfl (lv_at hl 5 rfl) ?_
    refine lv_iload hx hb d_Pl_repeatedBound_54 (lv_at hl 0 rfl) ?_
    refine lv_iload hx hb d_Pl_repeatedBound_56 (lv_at hl 7 rfl) ?_
    refine lv_iload hx hb d_Pl_repeatedBound_58 (lv_at hl 8 rfl) ?_
    refine lv_iload hx hb d_Pl_repeatedBound_60 (lv_at hl 9 rfl) ?_
    rw [(dn9_all (by omega)).1, (dn9_all (by omega)).2] at hV
    refine fo_call (np := 7) hC hK hP hV ⟨wl_Pl_36, wq_Fo_bound⟩ wD_bound ⟨by decide, by decide, by decide +kernel⟩ ⟨by simp only [rmOf]; omega, by simp only [rmOf]; omega⟩ hl.1 rfl (rest := []) rfl (Nat.le_of_ble_eq_true rfl) ⟨Nat.zero_le _, Nat.zero_le _⟩ d_Pl_repeatedBound_62 (fun rr hrr => ?_)
    subst hrr
    exact hret _ _ _ d_Pl_repeatedBound_65 (rfl)
  · skip
    refine lv_iload hx hb d_Pl_repeatedBound_28 (lv_at hl 0 rfl) ?_
    refine lv_iload hx hb d_Pl_repeatedBound_30 (lv_at hl 1 rfl) ?_
    refine zc_ge hx hb ((B 1) % (nb 0)) ((B 0) % (nb 0)) (by omega) (by omega) (by omega) (by omega) d_Pl_repeatedBound_32 (tgt := 46) (by decide) (fun h2 => ?_) (fun h2 => ?_)
    · skip
      refine lv_aload_n hx hb d_Pl_repeatedBound_46 rfl (lv_at hl 2 rfl) ?_
      refine rd_get hC in_Pl hK hP _ (he) rfl 4 (by decide) wf_Pl_24 rfl (v := .ref r1) (rfl) d_Pl_repeatedBound_47 ?_
      refine lv_iload hx hb d_Pl_repeatedBound_50 (lv_at hl 1 rfl) ?_
      refine lv_iload_n hx hb d_Pl_repeatedBound_52 rfl (lv_at hl 4 rfl) ?_
      refine lv_iload_n hx hb d_Pl_repeatedBound_53 rfl (lv_at hl 5 rfl) ?_
      refine lv_iload hx hb d_Pl_repeatedBound_54 (lv_at hl 0 rfl) ?_
      refine lv_iload hx hb d_Pl_repeatedBound_56 (lv_at hl 7 rfl) ?_
      refine lv_iload hx hb d_Pl_repeatedBound_58 (lv_at hl 8 rfl) ?_
      refine lv_iload hx hb d_Pl_repeatedBound_60 (lv_at hl 9 rfl) ?_
      rw [(dn9_no (by omega)).1, (dn9_no (by omega)).2] at hV
      refine fo_call (np := 7) hC hK hP hV ⟨wl_Pl_36, wq_Fo_bound⟩ wD_bound ⟨by decide, by decide, by decide +kernel⟩ ⟨by simp only [rmOf]; omega, by simp only [rmOf]; omega⟩ hl.1 rfl (rest := []) rfl (Nat.le_of_ble_eq_true rfl) ⟨Nat.zero_le _, Nat.zero_le _⟩ d_Pl_repeatedBound_62 (fun rr hrr => ?_)
      subst hrr
      exact hret _ _ _ d_Pl_repeatedBound_65 (rfl)
    · skip
      refine lv_iconst (v := 0) hx hb d_Pl_repeatedBound_35 (by decide) ?_
      refine lv_istore (lv' := [(8, .int 0), (9, .int (iI ((B 1) % (nb 0)))), (0, .ref r), (1, .int (iI (B 0))), (2, .int (iI (B 2))), (3, .int (iI (B 4))), (4, .int (iI (B 1))), (5, .int (iI (B 3))), (6, .int (iI (B 5))), (7, .int hi)]) hx hb d_Pl_repeatedBound_36 hl (by decide) rfl (fun ls hl => ?_)
      refine lv_aload_n hx hb d_Pl_repeatedBound_38 rfl (lv_at hl 2 rfl) ?_
      refine rd_get hC in_Pl hK hP _ (he) rfl 1 (by decide) wf_Pl_15 rfl (v := .int (iI (nb 0))) (rfl) d_Pl_repeatedBound_39 ?_
      refine lv_iconst (v := 1) hx hb d_Pl_repeatedBound_42 (by decide) ?_
      refine lv_isub hx hb d_Pl_repeatedBound_43 ?_
      refine topi_eq (iI_sub (nb 0) 1) ?_
      refine lv_istore (lv' := [(9, .int (iI ((nb 0) - 1))), (8, .int 0), (0, .ref r), (1, .int (iI (B 0))), (2, .int (iI (B 2))), (3, .int (iI (B 4))), (4, .int (iI (B 1))), (5, .int (iI (B 3))), (6, .int (iI (B 5))), (7, .int hi)]) hx hb d_Pl_repeatedBound_44 hl (by decide) rfl (fun ls hl => ?_)
      refine lv_aload_n hx hb d_Pl_repeatedBound_46 rfl (lv_at hl 2 rfl) ?_
      refine rd_get hC in_Pl hK hP _ (he) rfl 4 (by decide) wf_Pl_24 rfl (v := .ref r1) (rfl) d_Pl_repeatedBound_47 ?_
      refine lv_iload hx hb d_Pl_repeatedBound_50 (lv_at hl 1 rfl) ?_
      refine lv_iload_n hx hb d_Pl_repeatedBound_52 rfl (lv_at hl 4 rfl) ?_
      refine lv_iload_n hx hb d_Pl_repeatedBound_53 rfl (lv_at hl 5 rfl) ?_
      refine lv_iload hx hb d_Pl_repeatedBound_54 (lv_at hl 0 rfl) ?_
      refine lv_iload hx hb d_Pl_repeatedBound_56 (lv_at hl 7 rfl) ?_
      refine lv_iload hx hb d_Pl_repeatedBound_58 (lv_at hl 8 rfl) ?_
      refine lv_iload hx hb d_Pl_repeatedBound_60 (lv_at hl 9 rfl) ?_
      rw [(dn9_all (by omega)).1, (dn9_all (by omega)).2] at hV
      refine fo_call (np := 7) hC hK hP hV ⟨wl_Pl_36, wq_Fo_bound⟩ wD_bound ⟨by decide, by decide, by decide +kernel⟩ ⟨by simp only [rmOf]; omega, by simp only [rmOf]; omega⟩ hl.1 rfl (rest := []) rfl (Nat.le_of_ble_eq_true rfl) ⟨Nat.zero_le _, Nat.zero_le _⟩ d_Pl_repeatedBound_62 (fun rr hrr => ?_)
      subst hrr
      exact hret _ _ _ d_Pl_repeatedBound_65 (rfl)
set_option maxHeartbeats 400000 in
set_option maxRecDepth 100000 in
theorem c_Pl_bound (l : Launch) (D : va_G) (cT : Nat → ClassId) (w : va_W) (hi : Int32) (nb B : Nat → Int) (kk d i r r1 : Nat) (v1 : Int) (he : w[i]? = some (r, .inr (6, [.int (nI kk), .int (iI (nb 0)), .int (iI (nb 1)), .int (iI (nb 2)), .ref r1]))) (hk1 : 6 ≤ kk) (hk2 : kk ≤ 9) (hn : ∀ j, -20 ≤ nb j ∧ nb j ≤ 20) (hB : ∀ j, -1300 ≤ B j ∧ B j ≤ 1300) (h9 : kk = 9 → 1 ≤ nb 0) (hV : VAc l D cT w y_Fo_bound (3 + 2 * d) (60 + 70 * d) r1 [.int (iI (dn kk nb B 0)), .int (iI (dn kk nb B 2)), .int (iI (dn kk nb B 4)), .int (iI (dn kk nb B 1)), .int (iI (dn kk nb B 3)), .int (iI (dn kk nb B 5)), .int hi] (fun v => v = iI v1)) : RDi l D cT w y_Pl_bound b_Pl_bound 8 (some .int) (3 + 2 * (d + 1)) (60 + 70 * (d + 1)) [.ref r, .int (iI (B 0)), .int (iI (B 2)), .int (iI (B 4)), .int (iI (B 1)), .int (iI (B 3)), .int (iI (B 5)), .int hi] (fun v => v = iI v1) := by
  refine rd_enti (own := R_Pl) (by decide) rfl (Nat.le_of_ble_eq_true rfl) ?_
  intro p e s m args below meth c Q hC hK hP hret ls hl
  have hx := hC.1
  have hb := hC.2.1
  replace hl : lv_has ls 8 [(0, .ref r), (1, .int (iI (B 0))), (2, .int (iI (B 2))), (3, .int (iI (B 4))), (4, .int (iI (B 1))), (5, .int (iI (B 3))), (6, .int (iI (B 5))), (7, .int hi)] := hl
  have n0 := hn 0
  have b0 := hB 0
  have b1 := hB 1
  have b2 := hB 2
  have b3 := hB 3
  have b4 := hB 4
  have b5 := hB 5
  refine lv_aload_n hx hb d_Pl_bound_0 rfl (lv_at hl 0 rfl) ?_
  refine rd_get hC in_Pl hK hP _ (he) rfl 0 (by decide) wf_Pl_9 rfl (v := .int (nI kk)) (rfl) d_Pl_bound_1 ?_
  by_cases h1_0 : kk = 6
  · have ev : (nI kk).toInt = 6 := by rw [h1_0]; rfl
    refine lv_tableIn (tgt := 32) hx hb d_Pl_bound_4 (by rw [ev]; decide) (by rw [ev]; decide) (by rw [ev]; rfl) (by decide) ?_
    obtain rfl : kk = 6 := by omega
    refine lv_aload_n hx hb d_Pl_bound_32 rfl (lv_at hl 0 rfl) ?_
    refine rd_get hC in_Pl hK hP _ (he) rfl 4 (by decide) wf_Pl_24 rfl (v := .ref r1) (rfl) d_Pl_bound_33 ?_
    refine lv_iload_n hx hb d_Pl_bound_36 rfl (lv_at hl 1 rfl) ?_
    refine lv_aload_n hx hb d_Pl_bound_37 rfl (lv_at hl 0 rfl) ?_
    refine rd_get hC in_Pl hK hP _ (he) rfl 1 (by decide) wf_Pl_15 rfl (v := .int (iI (nb 0))) (rfl) d_Pl_bound_38 ?_
    refine lv_isub hx hb d_Pl_bound_41 ?_
    refine topi_eq (iI_sub (B 0) (nb 0)) ?_
    refine lv_iload_n hx hb d_Pl_bound_42 rfl (lv_at hl 2 rfl) ?_
    refine lv_aload_n hx hb d_Pl_bound_43 rfl (lv_at hl 0 rfl) ?_
    refine rd_get hC in_Pl hK hP _ (he) rfl 2 (by decide) wf_Pl_18 rfl (v := .int (iI (nb 1))) (rfl) d_Pl_bound_44 ?_
    refine lv_isub hx hb d_Pl_bound_47 ?_
    refine topi_eq (iI_sub (B 2) (nb 1)) ?_
    refine lv_iload_n hx hb d_Pl_bound_48 rfl (lv_at hl 3 rfl) ?_
    refine lv_aload_n hx hb d_Pl_bound_49 rfl (lv_at hl 0 rfl) ?_
    refine rd_get hC in_Pl hK hP _ (he) rfl 3 (by decide) wf_Pl_21 rfl (v := .int (iI (nb 2))) (rfl) d_Pl_bound_50 ?_
    refine lv_isub hx hb d_Pl_bound_53 ?_
    refine topi_eq (iI_sub (B 4) (nb 2)) ?_
    refine lv_iload hx hb d_Pl_bound_54 (lv_at hl 4 rfl) ?_
    refine lv_aload_n hx hb d_Pl_bound_56 rfl (lv_at hl 0 rfl) ?_
    refine rd_get hC in_Pl hK hP _ (he) rfl 1 (by decide) wf_Pl_15 rfl (v := .int (iI (nb 0))) (rfl) d_Pl_bound_57 ?_
    refine lv_isub hx hb d_Pl_bound_60 ?_
    refine topi_eq (iI_sub (B 1) (nb 0)) ?_
    refine lv_iload hx hb d_Pl_bound_61 (lv_at hl 5 rfl) ?_
    refine lv_aload_n hx hb d_Pl_bound_63 rfl (lv_at hl 0 rfl) ?_
    refine rd_get hC in_Pl hK hP _ (he) rfl 2 (by decide) wf_Pl_18 rfl (v := .int (iI (nb 1))) (rfl) d_Pl_bound_64 ?_
    refine lv_isub hx hb d_Pl_bound_67 ?_
    refine topi_eq (iI_sub (B 3) (nb 1)) ?_
    refine lv_iload hx hb d_Pl_bound_68 (lv_at hl 6 rfl) ?_
    refine lv_aload_n hx hb d_Pl_bound_70 rfl (lv_at hl 0 rfl) ?_
    refine rd_get hC in_Pl hK hP _ (he) rfl 3 (by decide) wf_Pl_21 rfl (v := .int (iI (nb 2))) (rfl) d_Pl_bound_71 ?_
    refine lv_isub hx hb d_Pl_bound_74 ?_
    refine topi_eq (iI_sub (B 5) (nb 2)) ?_
    refine lv_iload hx hb d_Pl_bound_75 (lv_at hl 7 rfl) ?_
    refine fo_call (np := 7) hC hK hP hV ⟨wl_Pl_36, wq_Fo_bound⟩ wD_bound ⟨by decide, by decide, by decide +kernel⟩ ⟨by simp only [rmOf]; omega, by simp only [rmOf]; omega⟩ hl.1 rfl (rest := []) rfl (Nat.le_of_ble_eq_true rfl) ⟨Nat.zero_le _, Nat.zero_le _⟩ d_Pl_bound_77 (fun rr hrr => ?_)
    subst hrr
    exact hret _ _ _ d_Pl_bound_80 (rfl)
  by_cases h1_1 : kk = 7
  · have ev : (nI kk).toInt = 7 := by rw [h1_1]; rfl
    refine lv_tableIn (tgt := 81) hx hb d_Pl_bound_4 (by rw [ev]; decide) (by rw [ev]; decide) (by rw [ev]; rfl) (by decide) ?_
    obtain rfl : kk = 7 := by omega
    refine lv_aload_n hx hb d_Pl_bound_81 rfl (lv_at hl 0 rfl) ?_
    refine rd_get hC in_Pl hK hP _ (he) rfl 4 (by decide) wf_Pl_24 rfl (v := .ref r1) (rfl) d_Pl_bound_82 ?_
    refine lv_iload_n hx hb d_Pl_bound_85 rfl (lv_at hl 2 rfl) ?_
    refine lv_iload_n hx hb d_Pl_bound_86 rfl (lv_at hl 3 rfl) ?_
    refine lv_iload_n hx hb d_Pl_bound_87 rfl (lv_at hl 1 rfl) ?_
    refine lv_iload hx hb d_Pl_bound_88 (lv_at hl 5 rfl) ?_
    refine lv_iload hx hb d_Pl_bound_90 (lv_at hl 6 rfl) ?_
    refine lv_iload hx hb d_Pl_bound_92 (lv_at hl 4 rfl) ?_
    refine lv_iload hx hb d_Pl_bound_94 (lv_at hl 7 rfl) ?_
    refine fo_call (np := 7) hC hK hP hV ⟨wl_Pl_36, wq_Fo_bound⟩ wD_bound ⟨by decide, by decide, by decide +kernel⟩ ⟨by simp only [rmOf]; omega, by simp only [rmOf]; omega⟩ hl.1 rfl (rest := []) rfl (Nat.le_of_ble_eq_true rfl) ⟨Nat.zero_le _, Nat.zero_le _⟩ d_Pl_bound_96 (fun rr hrr => ?_)
    subst hrr
    exact hret _ _ _ d_Pl_bound_99 (rfl)
  by_cases h1_2 : kk = 8
  · have ev : (nI kk).toInt = 8 := by rw [h1_2]; rfl
    refine lv_tableIn (tgt := 100) hx hb d_Pl_bound_4 (by rw [ev]; decide) (by rw [ev]; decide) (by rw [ev]; rfl) (by decide) ?_
    obtain rfl : kk = 8 := by omega
    refine lv_aload_n hx hb d_Pl_bound_100 rfl (lv_at hl 0 rfl) ?_
    refine rd_get hC in_Pl hK hP _ (he) rfl 4 (by decide) wf_Pl_24 rfl (v := .ref r1) (rfl) d_Pl_bound_101 ?_
    refine lv_iload hx hb d_Pl_bound_104 (lv_at hl 4 rfl) ?_
    refine lv_ineg hx hb d_Pl_bound_106 ?_
    refine topi_eq (iI_neg (B 1)) ?_
    refine lv_iload_n hx hb d_Pl_bound_107 rfl (lv_at hl 2 rfl) ?_
    refine lv_iload_n hx hb d_Pl_bound_108 rfl (lv_at hl 3 rfl) ?_
    refine lv_iload_n hx hb d_Pl_bound_109 rfl (lv_at hl 1 rfl) ?_
    refine lv_ineg hx hb d_Pl_bound_110 ?_
    refine topi_eq (iI_neg (B 0)) ?_
    refine lv_iload hx hb d_Pl_bound_111 (lv_at hl 5 rfl) ?_
    refine lv_iload hx hb d_Pl_bound_113 (lv_at hl 6 rfl) ?_
    refine lv_iload hx hb d_Pl_bound_115 (lv_at hl 7 rfl) ?_
    refine fo_call (np := 7) hC hK hP hV ⟨wl_Pl_36, wq_Fo_bound⟩ wD_bound ⟨by decide, by decide, by decide +kernel⟩ ⟨by simp only [rmOf]; omega, by simp only [rmOf]; omega⟩ hl.1 rfl (rest := []) rfl (Nat.le_of_ble_eq_true rfl) ⟨Nat.zero_le _, Nat.zero_le _⟩ d_Pl_bound_117 (fun rr hrr => ?_)
    subst hrr
    exact hret _ _ _ d_Pl_bound_120 (rfl)
  have ev : (nI kk).toInt < 6 ∨ 8 < (nI kk).toInt := by
    rw [show (nI kk).toInt = (↑kk : Int) from iI_toInt (z := (↑kk : Int)) (by omega) (by omega)]
    omega
  refine lv_tableOut (tgt := 121) hx hb d_Pl_bound_4 ev (by decide) ?_
  obtain rfl : kk = 9 := by omega
  have n9 := h9 rfl
  refine lv_aload_n hx hb d_Pl_bound_121 rfl (lv_at hl 0 rfl) ?_
  refine lv_iload_n hx hb d_Pl_bound_122 rfl (lv_at hl 1 rfl) ?_
  refine lv_iload_n hx hb d_Pl_bound_123 rfl (lv_at hl 2 rfl) ?_
  refine lv_iload_n hx hb d_Pl_bound_124 rfl (lv_at hl 3 rfl) ?_
  refine lv_iload hx hb d_Pl_bound_125 (lv_at hl 4 rfl) ?_
  refine lv_iload hx hb d_Pl_bound_127 (lv_at hl 5 rfl) ?_
  refine lv_iload hx hb d_Pl_bound_129 (lv_at hl 6 rfl) ?_
  refine lv_iload hx hb d_Pl_bound_131 (lv_at hl 7 rfl) ?_
  refine rd_call (np := 7) hC hK hP (he) rfl (c_Pl_repeatedBound l D cT w hi nb B _ d i r r1 v1 he n9 (by omega) hB hV) rfl ⟨wl_Pl_40, wi_Pl_repeatedBound, ws_Pl_repeatedBound, wc_Pl_repeatedBound, wn_Pl⟩ ⟨by decide, by decide, by decide +kernel⟩ ⟨by simp only [rmOf]; omega, by simp only [rmOf]; omega⟩ hl.1 rfl (rest := []) rfl (Nat.le_of_ble_eq_true rfl) ⟨Nat.zero_le _, Nat.zero_le _⟩ d_Pl_bound_133 (fun rr hrr => ?_)
  subst hrr
  exact hret _ _ _ d_Pl_bound_136 (rfl)

theorem VA_v (l : Launch) (D : va_G) (cT : Nat → ClassId) (w : va_W) {kd : Nat → Nat} {nb : Nat → Nat → Int} (hr : rpOk kd nb) (d : Nat) : ∀ (k r : Nat) (B : Nat → Int), d ≤ 15 → FT w kd nb d k r → PT6 B → (∀ i, -(1300 - 20 * (d : Int)) ≤ B i ∧ B i ≤ 1300 - 20 * (d : Int)) → VAc l D cT w y_Fo_valueAt (3 + 2 * d) (60 + 70 * d) r [.int (iI (B 0)), .int (iI (B 2)), .int (iI (B 4))] (fun v => v = iI (evF kd nb d k B).1) := by
  induction d with
  | zero => intro k r B _ hf; exact hf.elim
  | succ d ih =>
    intro k r B hd hf hpt hB
    have hB2 : ∀ i, -1300 ≤ B i ∧ B i ≤ 1300 := fun i => by have := hB i; omega
    rcases hf with ⟨h1, i, h2⟩ | ⟨h1, i, h2⟩ | ⟨h1, i, h2⟩ | ⟨h1, i, r1, r2, h2, h3, h4⟩ | ⟨h1, i, r1, h2, h3⟩
    · have e : (evF kd nb (d + 1) k B).1 = lfL 0 (nb k) B := by unfold evF; rw [if_pos (by omega), h1]
      rw [e]
      exact ⟨i, 0, 4, _, _, y_Ba_valueAt, b_Ba_valueAt, h2, rfl, by decide, c_Ba_valueAt l D cT w (nb k) B (d + 1) i r h2 hpt, ws_Ba_Fo_valueAt, wi_Ba_valueAt, wn_Ba, wc_Ba_valueAt⟩
    · have e : (evF kd nb (d + 1) k B).1 = lfL 1 (nb k) B := by unfold evF; rw [if_pos (by omega), h1]
      rw [e]
      exact ⟨i, 2, 7, _, _, y_Bx_valueAt, b_Bx_valueAt, h2, rfl, by decide, c_Bx_valueAt l D cT w (nb k) B (d + 1) i r h2 (hr.1 k) hB2 hpt, ws_Bx_Fo_valueAt, wi_Bx_valueAt, wn_Bx, wc_Bx_valueAt⟩
    · have e : (evF kd nb (d + 1) k B).1 = lfL 2 (nb k) B := by unfold evF; rw [if_pos (by omega), h1]
      rw [e]
      exact ⟨i, 7, 4, _, _, y_Pn_valueAt, b_Pn_valueAt, h2, rfl, by decide, c_Pn_valueAt l D cT w (nb k) B (d + 1) i r h2 hpt, ws_Pn_Fo_valueAt, wi_Pn_valueAt, wn_Pn, wc_Pn_valueAt⟩
    · have hb1 := ev_b hr d (k + 1) B (by omega) (fun i => by have := hB i; omega)
      have hb2 := ev_b hr d (nxF kd d (k + 1)) B (by omega) (fun i => by have := hB i; omega)
      have v1 := ih (k + 1) r1 B (by omega) h3 hpt (fun i => by have := hB i; omega)
      have v2 := ih (nxF kd d (k + 1)) r2 B (by omega) h4 hpt (fun i => by have := hB i; omega)
      have e : (evF kd nb (d + 1) k B).1 = jnd (kd k) (evF kd nb d (k + 1) B).1 (evF kd nb d (nxF kd d (k + 1)) B).1 := by
        have e0 : evF kd nb (d + 1) k B = cmb (kd k) (evF kd nb d (k + 1) B) (evF kd nb d (nxF kd d (k + 1)) B) := by
          show (if kd k < 3 then _ else if kd k < 6 then _ else _) = _
          rw [if_neg (by omega), if_pos (by omega)]
        rw [e0, ← jn_L, ← ev_pt hr d (nxF kd d (k + 1)) B hpt, ite_self]
      rw [e]
      exact ⟨i, 5, 4, _, _, y_Pa_valueAt, b_Pa_valueAt, h2, rfl, by decide, c_Pa_valueAt l D cT w B (kd k) d i r r1 r2 _ _ h2 (by omega) v1 v2 hb1.1 hb2.1, ws_Pa_Fo_valueAt, wi_Pa_valueAt, wn_Pa, wc_Pa_valueAt⟩
    · have hdn := fun j => dn_b (kd := kd k) (nb := nb k) (B := B) (M := 1300 - 20 * ((d + 1 : Nat) : Int)) (by omega) (hr.1 k) (hr.2 k) hB j
      have v1 := ih (k + 1) r1 (dn (kd k) (nb k) B) (by omega) h3 (dn_pt hpt (hr.2 k)) (fun j => by have := hdn j; omega)
      have e : (evF kd nb (d + 1) k B) = evF kd nb d (k + 1) (dn (kd k) (nb k) B) := by
        show (if kd k < 3 then _ else if kd k < 6 then _ else _) = _
        rw [if_neg (by omega), if_neg (by omega)]
      rw [e]
      exact ⟨i, 6, 4, _, _, y_Pl_valueAt, b_Pl_valueAt, h2, rfl, by decide, c_Pl_valueAt l D cT w (nb k) B (kd k) d i r r1 _ h2 h1.1 h1.2 (hr.1 k) hB2 (hr.2 k) hpt v1, ws_Pl_Fo_valueAt, wi_Pl_valueAt, wn_Pl, wc_Pl_valueAt⟩
theorem VA_b (l : Launch) (D : va_G) (cT : Nat → ClassId) (w : va_W) {kd : Nat → Nat} {nb : Nat → Nat → Int} (hr : rpOk kd nb) (d : Nat) : ∀ (k r : Nat) (B : Nat → Int) (h : Int32), (h = 0 ∨ h = 1) → d ≤ 15 → FT w kd nb d k r → BX6 B → (∀ i, -(1300 - 20 * (d : Int)) ≤ B i ∧ B i ≤ 1300 - 20 * (d : Int)) → VAc l D cT w y_Fo_bound (3 + 2 * d) (60 + 70 * d) r [.int (iI (B 0)), .int (iI (B 2)), .int (iI (B 4)), .int (iI (B 1)), .int (iI (B 3)), .int (iI (B 5)), .int h] (fun v => v = iI (lh h (evF kd nb d k B))) := by
  induction d with
  | zero => intro k r B h _ _ hf; exact hf.elim
  | succ d ih =>
    intro k r B h hh hd hf hbx hB
    have hB2 : ∀ i, -1300 ≤ B i ∧ B i ≤ 1300 := fun i => by have := hB i; omega
    rcases hf with ⟨h1, i, h2⟩ | ⟨h1, i, h2⟩ | ⟨h1, i, h2⟩ | ⟨h1, i, r1, r2, h2, h3, h4⟩ | ⟨h1, i, r1, h2, h3⟩
    · have e : evF kd nb (d + 1) k B = (lfL 0 (nb k) B, lfH 0 (nb k) B) := by unfold evF; rw [if_pos (by omega), h1]
      rw [e]
      exact ⟨i, 0, 9, _, _, y_Ba_bound, b_Ba_bound, h2, rfl, by decide, c_Ba_bound l D cT w h (nb k) B (d + 1) i r h2 (hr.1 k) hB2, ws_Ba_Fo_bound, wi_Ba_bound, wn_Ba, wc_Ba_bound⟩
    · have e : evF kd nb (d + 1) k B = (lfL 1 (nb k) B, lfH 1 (nb k) B) := by unfold evF; rw [if_pos (by omega), h1]
      rw [e]
      exact ⟨i, 2, 11, _, _, y_Bx_bound, b_Bx_bound, h2, rfl, by decide, c_Bx_bound l D cT w h (nb k) B (d + 1) i r h2 (hr.1 k) hB2, ws_Bx_Fo_bound, wi_Bx_bound, wn_Bx, wc_Bx_bound⟩
    · have e : evF kd nb (d + 1) k B = (lfL 2 (nb k) B, lfH 2 (nb k) B) := by unfold evF; rw [if_pos (by omega), h1]
      rw [e]
      exact ⟨i, 7, 11, _, _, y_Pn_bound, b_Pn_bound, h2, rfl, by decide, c_Pn_bound l D cT w h (nb k) B (d + 1) i r h2 (hr.1 k) hB2 hbx, ws_Pn_Fo_bound, wi_Pn_bound, wn_Pn, wc_Pn_bound⟩
    · have hb1 := ev_b hr d (k + 1) B (by omega) (fun i => by have := hB i; omega)
      have hb2 := ev_b hr d (nxF kd d (k + 1)) B (by omega) (fun i => by have := hB i; omega)
      have v1 := fun (h' : Int32) (hh' : h' = 0 ∨ h' = 1) => ih (k + 1) r1 B h' hh' (by omega) h3 hbx (fun i => by have := hB i; omega)
      have v2 := fun (h' : Int32) (hh' : h' = 0 ∨ h' = 1) => ih (nxF kd d (k + 1)) r2 B h' hh' (by omega) h4 hbx (fun i => by have := hB i; omega)
      have e : evF kd nb (d + 1) k B = cmb (kd k) (evF kd nb d (k + 1) B) (evF kd nb d (nxF kd d (k + 1)) B) := by
        show (if kd k < 3 then _ else if kd k < 6 then _ else _) = _
        rw [if_neg (by omega), if_pos (by omega)]
      rw [e]
      exact ⟨i, 5, 9, _, _, y_Pa_bound, b_Pa_bound, h2, rfl, by decide, c_Pa_bound l D cT w h B (kd k) d i r r1 r2 _ _ h2 (by omega) v1 v2 hb1 hb2 hh, ws_Pa_Fo_bound, wi_Pa_bound, wn_Pa, wc_Pa_bound⟩
    · have hdn := fun j => dn_b (kd := kd k) (nb := nb k) (B := B) (M := 1300 - 20 * ((d + 1 : Nat) : Int)) (by omega) (hr.1 k) (hr.2 k) hB j
      have v1 := ih (k + 1) r1 (dn (kd k) (nb k) B) h hh (by omega) h3 (dn_bx hbx (hr.2 k)) (fun j => by have := hdn j; omega)
      have e : (evF kd nb (d + 1) k B) = evF kd nb d (k + 1) (dn (kd k) (nb k) B) := by
        show (if kd k < 3 then _ else if kd k < 6 then _ else _) = _
        rw [if_neg (by omega), if_neg (by omega)]
      rw [e]
      exact ⟨i, 6, 8, _, _, y_Pl_bound, b_Pl_bound, h2, rfl, by decide, c_Pl_bound l D cT w h (nb k) B (kd k) d i r r1 _ h2 h1.1 h1.2 (hr.1 k) hB2 (hr.2 k) v1, ws_Pl_Fo_bound, wi_Pl_bound, wn_Pl, wc_Pl_bound⟩
