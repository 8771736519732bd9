/-! the class: scan, count -/
set_option maxHeartbeats 400000 in
set_option maxRecDepth 100000 in
theorem c_So_scan_yy (l : Launch) (D : va_G) (cT : Nat → ClassId) (X : CX) (I : Nat → Int32) (a : Nat → Nat → Int32) (b : Nat) (j : Nat) (lane : Int32) (f : Int32) (n : Int32) (nb : Nat) (T : Nat → TX) (tl : Nat) (tb : Nat → Nat) (ft : Int32) (la : Nat → Int32) (szz : Nat → Nat) (ce : Nat → Nat → Int32) (hCI : CI X I a nb T tl tb ft la szz ce) (hbb : b < nb) (hj : j < 4) : RDi l D cT (cw cT X I a) y_So_scan b_So_scan 8 (some .int) 26 872 [.ref (X.1 0), .int (nI b), .int (nI j), .int lane, .int f, .int n] (fun r => r = if ((0 ≤ lane.toInt ∧ lane.toInt ≤ 2) ∧ 0 ≤ n.toInt ∧ n.toInt ≤ 20) then (if I (10 * (10 + 2 * j) + 1) = -1 then -11 else if I (10 * (10 + 2 * j) + 1) = lane then scn (T b) (a (10 + 2 * j + 1)) (szz j : Int) f.toInt n.toInt.toNat 0 0 else -13) else -1) := by
  refine rd_enti (own := R_So) (by decide) rfl (Nat.le_of_ble_eq_true rfl) ?_
  intro p e s m args below meth c Q hC hK hP hret ls hl
  have hx := hC.1
  have hb := hC.2.1
  replace hl : lv_has ls 8 [(0, .ref (X.1 0)), (1, .int (nI b)), (2, .int (nI j)), (3, .int lane), (4, .int f), (5, .int n)] := hl
  refine lv_aload_n hx hb d_So_scan_0 rfl (lv_at hl 0 rfl) ?_
  refine lv_iload_n hx hb d_So_scan_1 rfl (lv_at hl 1 rfl) ?_
  refine rd_callq (np := 1) hC hK hP (cw_he (by omega) (cE_0)) rfl (c_So_bodyNumber_y l D cT X I a b nb (by omega) (hCI.1.1) hCI.1.2.2.1 hCI.1.2.2.2.1) rfl ⟨wl_So_79, wi_So_bodyNumber, ws_So_bodyNumber, wc_So_bodyNumber, wn_So⟩ ⟨by decide, by decide, by decide +kernel⟩ ⟨Nat.le_of_ble_eq_true rfl, Nat.le_of_ble_eq_true rfl⟩ hl.1 rfl (rest := []) rfl (Nat.le_of_ble_eq_true rfl) ⟨Nat.zero_le _, Nat.zero_le _⟩ d_So_scan_2 (fun rr hrr => ?_)
  subst hrr
  refine lv_astore (lv' := [(6, .ref (X.1 (18 + 3 * b))), (0, .ref (X.1 0)), (1, .int (nI b)), (2, .int (nI j)), (3, .int lane), (4, .int f), (5, .int n)]) hx hb d_So_scan_5 hl (by decide) rfl (fun ls hl => ?_)
  refine lv_aload_n hx hb d_So_scan_7 rfl (lv_at hl 1 rfl) ?_
  refine lv_iload_n hx hb d_So_scan_8 rfl (lv_at hl 3 rfl) ?_
  refine rd_callq (np := 1) hC hK hP (cw_he (by omega) (cE_0)) rfl (c_So_sheetNumber_y l D cT X I a j hj) rfl ⟨wl_So_182, wi_So_sheetNumber, ws_So_sheetNumber, wc_So_sheetNumber, wn_So⟩ ⟨by decide, by decide, by decide +kernel⟩ ⟨Nat.le_of_ble_eq_true rfl, Nat.le_of_ble_eq_true rfl⟩ hl.1 rfl (rest := []) rfl (Nat.le_of_ble_eq_true rfl) ⟨Nat.zero_le _, Nat.zero_le _⟩ d_So_scan_9 (fun rr hrr => ?_)
  subst hrr
  refine lv_astore (lv' := [(7, .ref (X.1 (10 + 2 * j))), (6, .ref (X.1 (18 + 3 * b))), (0, .ref (X.1 0)), (1, .int (nI b)), (2, .int (nI j)), (3, .int lane), (4, .int f), (5, .int n)]) hx hb d_So_scan_12 hl (by decide) rfl (fun ls hl => ?_)
  refine lv_aload hx hb d_So_scan_14 (lv_at hl 1 rfl) ?_
  refine lv_ifnull hx hb d_So_scan_16 ?_
  refine lv_aload hx hb d_So_scan_19 (lv_at hl 0 rfl) ?_
  refine lv_ifnull hx hb d_So_scan_21 ?_
  refine lv_iload_n hx hb d_So_scan_24 rfl (lv_at hl 5 rfl) ?_
  refine st_calli (np := 1) hC (c_So_isLane l lane) ⟨wl_So_186, wt_So_isLane, wc_So_isLane, wn_So⟩ ⟨by decide, by decide, by decide +kernel⟩ ⟨Nat.le_of_ble_eq_true rfl, Nat.le_of_ble_eq_true rfl⟩ hl.1 rfl (rest := []) rfl (Nat.le_of_ble_eq_true rfl) ⟨Nat.zero_le _, Nat.zero_le _⟩ d_So_scan_25 (fun rr hrr => ?_)
  subst hrr
  refine bz_eq (tgt := 42) hx hb d_So_scan_28 (by decide) (fun h1 => ?_) (fun h1 => ?_)
  · skip
    refine lv_iconst (v := (-1)) hx hb d_So_scan_42 (by decide) ?_
    exact hret _ _ _ d_So_scan_43 (by rw [if_neg (by omega)])
  · skip
    refine lv_iload hx hb d_So_scan_31 (lv_at hl 7 rfl) ?_
    refine lv_iconst (v := 0) hx hb d_So_scan_33 (by decide) ?_
    refine lv_bipush (v := 20) hx hb d_So_scan_34 (by decide) ?_
    refine st_calli (np := 3) hC (c_So_isBetween l n 0 20 n.toInt 0 20 rfl rfl rfl) ⟨wl_So_106, wt_So_isBetween, wc_So_isBetween, wn_So⟩ ⟨by decide, by decide, by decide +kernel⟩ ⟨Nat.le_of_ble_eq_true rfl, Nat.le_of_ble_eq_true rfl⟩ hl.1 rfl (rest := []) rfl (Nat.le_of_ble_eq_true rfl) ⟨Nat.zero_le _, Nat.zero_le _⟩ d_So_scan_36 (fun rr hrr => ?_)
    subst hrr
    refine bz_ne (tgt := 44) hx hb d_So_scan_39 (by decide) (fun h2 => ?_) (fun h2 => ?_)
    · skip
      refine lv_aload hx hb d_So_scan_44 (lv_at hl 0 rfl) ?_
      refine rd_call (np := 0) hC hK hP (cw_he (by omega) (cE_S (by omega))) rfl (c_Sh_isNothing l D cT X I a j (by omega)) rfl ⟨wl_So_193, wi_Sh_isNothing, ws_Sh_isNothing, wc_Sh_isNothing, wn_Sh⟩ ⟨by decide, by decide, by decide +kernel⟩ ⟨Nat.le_of_ble_eq_true rfl, Nat.le_of_ble_eq_true rfl⟩ hl.1 rfl (rest := []) rfl (Nat.le_of_ble_eq_true rfl) ⟨Nat.zero_le _, Nat.zero_le _⟩ d_So_scan_46 (fun rr hrr => ?_)
      subst hrr
      refine bz_eq (tgt := 55) hx hb d_So_scan_49 (by decide) (fun h3 => ?_) (fun h3 => ?_)
      · skip
        refine lv_aload hx hb d_So_scan_55 (lv_at hl 0 rfl) ?_
        refine rd_getN hC in_Sh hK hP (10 + 2 * j) (cw_he (by omega) (cE_S (by omega))) rfl 1 (by decide) wF_So_200 rfl (v := .int (I (10 * (10 + 2 * j) + 1))) (rfl) d_So_scan_57 ?_
        refine lv_iload_n hx hb d_So_scan_60 rfl (lv_at hl 5 rfl) ?_
        refine yc_eq hx hb ((I (10 * (10 + 2 * j) + 1)).toInt) lane.toInt (rfl) (rfl) d_So_scan_61 (tgt := 67) (by decide) (fun h4 => ?_) (fun h4 => ?_)
        · skip
          rw [nI_ofI (x := n) rfl (by omega)] at hl
          have hbn9 : b < X.2.2.2.1 := by rw [hCI.1.2.1]; exact hbb
          obtain ⟨hF9, hrp, hE, -⟩ := hCI.1.2.2.2.2 b hbb
          have hF : FT (cw cT X I a) (T b).2.1 (T b).2.2.1 10 0 (X.2.1 (18 + 3 * b)) := FT_up hF9
          have hsh := hCI.2.2.2.2 j hj
          refine lv_aload hx hb d_So_scan_67 (lv_at hl 1 rfl) ?_
          refine lv_aload hx hb d_So_scan_69 (lv_at hl 0 rfl) ?_
          refine lv_iload hx hb d_So_scan_71 (lv_at hl 6 rfl) ?_
          refine lv_iload hx hb d_So_scan_73 (lv_at hl 7 rfl) ?_
          refine rd_callS (np := 4) hC hK hP (c_So_countScanned l D cT X I a b j f n.toInt.toNat T (szz j) hbn9 hF hrp hE hsh.2.1.1 hsh.2.1.2 hj (by omega)) ⟨wl_So_203, wt_So_countScanned, wc_So_countScanned, wn_So⟩ ⟨by decide, by decide, by decide +kernel⟩ ⟨Nat.le_of_ble_eq_true rfl, Nat.le_of_ble_eq_true rfl⟩ hl.1 rfl (rest := []) rfl (Nat.le_of_ble_eq_true rfl) ⟨Nat.zero_le _, Nat.zero_le _⟩ d_So_scan_75 (fun rr hrr => ?_)
          subst hrr
          exact hret _ _ _ d_So_scan_78 (by rw [if_pos (by omega), if_neg (by assumption), if_pos (Int32.toInt_inj.mp (by assumption))])
        · skip
          refine lv_bipush (v := (-13)) hx hb d_So_scan_64 (by decide) ?_
          exact hret _ _ _ d_So_scan_66 (by rw [if_pos (by omega), if_neg (by assumption), if_neg (fun z9 => (by assumption : ¬ (I (10 * (10 + 2 * j) + 1)).toInt = lane.toInt) (by rw [z9]))])
      · skip
        refine lv_bipush (v := (-11)) hx hb d_So_scan_52 (by decide) ?_
        exact hret _ _ _ d_So_scan_54 (by rw [if_pos (by omega), if_pos (by assumption)])
    · skip
      refine lv_iconst (v := (-1)) hx hb d_So_scan_42 (by decide) ?_
      exact hret _ _ _ d_So_scan_43 (by rw [if_neg (by omega)])
set_option maxHeartbeats 400000 in
set_option maxRecDepth 100000 in
theorem c_So_scan_yn (l : Launch) (D : va_G) (cT : Nat → ClassId) (X : CX) (I : Nat → Int32) (a : Nat → Nat → Int32) (b : Nat) (j : Int32) (lane : Int32) (f : Int32) (n : Int32) (nb : Nat) (T : Nat → TX) (tl : Nat) (tb : Nat → Nat) (ft : Int32) (la : Nat → Int32) (szz : Nat → Nat) (ce : Nat → Nat → Int32) (hCI : CI X I a nb T tl tb ft la szz ce) (hbb : b < nb) (hj : ¬ (0 ≤ j.toInt ∧ j.toInt < 4)) : RDi l D cT (cw cT X I a) y_So_scan b_So_scan 8 (some .int) 26 872 [.ref (X.1 0), .int (nI b), .int j, .int lane, .int f, .int n] (fun r => r = -1) := by
  refine rd_enti (own := R_So) (by decide) rfl (Nat.le_of_ble_eq_true rfl) ?_
  intro p e s m args below meth c Q hC hK hP hret ls hl
  have hx := hC.1
  have hb := hC.2.1
  replace hl : lv_has ls 8 [(0, .ref (X.1 0)), (1, .int (nI b)), (2, .int j), (3, .int lane), (4, .int f), (5, .int n)] := hl
  refine lv_aload_n hx hb d_So_scan_0 rfl (lv_at hl 0 rfl) ?_
  refine lv_iload_n hx hb d_So_scan_1 rfl (lv_at hl 1 rfl) ?_
  refine rd_callq (np := 1) hC hK hP (cw_he (by omega) (cE_0)) rfl (c_So_bodyNumber_y l D cT X I a b nb (by omega) (hCI.1.1) hCI.1.2.2.1 hCI.1.2.2.2.1) rfl ⟨wl_So_79, wi_So_bodyNumber, ws_So_bodyNumber, wc_So_bodyNumber, wn_So⟩ ⟨by decide, by decide, by decide +kernel⟩ ⟨Nat.le_of_ble_eq_true rfl, Nat.le_of_ble_eq_true rfl⟩ hl.1 rfl (rest := []) rfl (Nat.le_of_ble_eq_true rfl) ⟨Nat.zero_le _, Nat.zero_le _⟩ d_So_scan_2 (fun rr hrr => ?_)
  subst hrr
  refine lv_astore (lv' := [(6, .ref (X.1 (18 + 3 * b))), (0, .ref (X.1 0)), (1, .int (nI b)), (2, .int j), (3, .int lane), (4, .int f), (5, .int n)]) hx hb d_So_scan_5 hl (by decide) rfl (fun ls hl => ?_)
  refine lv_aload_n hx hb d_So_scan_7 rfl (lv_at hl 1 rfl) ?_
  refine lv_iload_n hx hb d_So_scan_8 rfl (lv_at hl 3 rfl) ?_
  refine rd_callq (np := 1) hC hK hP (cw_he (by omega) (cE_0)) rfl (c_So_sheetNumber_n l D cT X I a j hj) rfl ⟨wl_So_182, wi_So_sheetNumber, ws_So_sheetNumber, wc_So_sheetNumber, wn_So⟩ ⟨by decide, by decide, by decide +kernel⟩ ⟨Nat.le_of_ble_eq_true rfl, Nat.le_of_ble_eq_true rfl⟩ hl.1 rfl (rest := []) rfl (Nat.le_of_ble_eq_true rfl) ⟨Nat.zero_le _, Nat.zero_le _⟩ d_So_scan_9 (fun rr hrr => ?_)
  subst hrr
  refine lv_astoreN (lv' := [(7, .null), (6, .ref (X.1 (18 + 3 * b))), (0, .ref (X.1 0)), (1, .int (nI b)), (2, .int j), (3, .int lane), (4, .int f), (5, .int n)]) hx hb d_So_scan_12 hl (by decide) rfl (fun ls hl => ?_)
  refine lv_aload hx hb d_So_scan_14 (lv_at hl 1 rfl) ?_
  refine lv_ifnull hx hb d_So_scan_16 ?_
  refine lv_aloadN hx hb d_So_scan_19 (lv_at hl 0 rfl) ?_
  refine lv_ifnullN (tgt := 42) hx hb d_So_scan_21 (by decide) ?_
  refine lv_iconst (v := (-1)) hx hb d_So_scan_42 (by decide) ?_
  exact hret _ _ _ d_So_scan_43 (rfl)
set_option maxHeartbeats 400000 in
set_option maxRecDepth 100000 in
theorem c_So_scan_ny (l : Launch) (D : va_G) (cT : Nat → ClassId) (X : CX) (I : Nat → Int32) (a : Nat → Nat → Int32) (b : Int32) (j : Nat) (lane : Int32) (f : Int32) (n : Int32) (nb : Nat) (T : Nat → TX) (tl : Nat) (tb : Nat → Nat) (ft : Int32) (la : Nat → Int32) (szz : Nat → Nat) (ce : Nat → Nat → Int32) (hCI : CI X I a nb T tl tb ft la szz ce) (hbb : ¬ (0 ≤ b.toInt ∧ b.toInt < nb)) (hj : j < 4) : RDi l D cT (cw cT X I a) y_So_scan b_So_scan 8 (some .int) 26 872 [.ref (X.1 0), .int b, .int (nI j), .int lane, .int f, .int n] (fun r => r = -1) := by
  refine rd_enti (own := R_So) (by decide) rfl (Nat.le_of_ble_eq_true rfl) ?_
  intro p e s m args below meth c Q hC hK hP hret ls hl
  have hx := hC.1
  have hb := hC.2.1
  replace hl : lv_has ls 8 [(0, .ref (X.1 0)), (1, .int b), (2, .int (nI j)), (3, .int lane), (4, .int f), (5, .int n)] := hl
  refine lv_aload_n hx hb d_So_scan_0 rfl (lv_at hl 0 rfl) ?_
  refine lv_iload_n hx hb d_So_scan_1 rfl (lv_at hl 1 rfl) ?_
  refine rd_callq (np := 1) hC hK hP (cw_he (by omega) (cE_0)) rfl (c_So_bodyNumber_n l D cT X I a b nb hbb (hCI.1.1) hCI.1.2.2.1) rfl ⟨wl_So_79, wi_So_bodyNumber, ws_So_bodyNumber, wc_So_bodyNumber, wn_So⟩ ⟨by decide, by decide, by decide +kernel⟩ ⟨Nat.le_of_ble_eq_true rfl, Nat.le_of_ble_eq_true rfl⟩ hl.1 rfl (rest := []) rfl (Nat.le_of_ble_eq_true rfl) ⟨Nat.zero_le _, Nat.zero_le _⟩ d_So_scan_2 (fun rr hrr => ?_)
  subst hrr
  refine lv_astoreN (lv' := [(6, .null), (0, .ref (X.1 0)), (1, .int b), (2, .int (nI j)), (3, .int lane), (4, .int f), (5, .int n)]) hx hb d_So_scan_5 hl (by decide) rfl (fun ls hl => ?_)
  refine lv_aload_n hx hb d_So_scan_7 rfl (lv_at hl 1 rfl) ?_
  refine lv_iload_n hx hb d_So_scan_8 rfl (lv_at hl 3 rfl) ?_
  refine rd_callq (np := 1) hC hK hP (cw_he (by omega) (cE_0)) rfl (c_So_sheetNumber_y l D cT X I a j hj) rfl ⟨wl_So_182, wi_So_sheetNumber, ws_So_sheetNumber, wc_So_sheetNumber, wn_So⟩ ⟨by decide, by decide, by decide +kernel⟩ ⟨Nat.le_of_ble_eq_true rfl, Nat.le_of_ble_eq_true rfl⟩ hl.1 rfl (rest := []) rfl (Nat.le_of_ble_eq_true rfl) ⟨Nat.zero_le _, Nat.zero_le _⟩ d_So_scan_9 (fun rr hrr => ?_)
  subst hrr
  refine lv_astore (lv' := [(7, .ref (X.1 (10 + 2 * j))), (6, .null), (0, .ref (X.1 0)), (1, .int b), (2, .int (nI j)), (3, .int lane), (4, .int f), (5, .int n)]) hx hb d_So_scan_12 hl (by decide) rfl (fun ls hl => ?_)
  refine lv_aloadN hx hb d_So_scan_14 (lv_at hl 1 rfl) ?_
  refine lv_ifnullN (tgt := 42) hx hb d_So_scan_16 (by decide) ?_
  refine lv_iconst (v := (-1)) hx hb d_So_scan_42 (by decide) ?_
  exact hret _ _ _ d_So_scan_43 (rfl)
set_option maxHeartbeats 400000 in
set_option maxRecDepth 100000 in
theorem c_So_scan_nn (l : Launch) (D : va_G) (cT : Nat → ClassId) (X : CX) (I : Nat → Int32) (a : Nat → Nat → Int32) (b : Int32) (j : Int32) (lane : Int32) (f : Int32) (n : Int32) (nb : Nat) (T : Nat → TX) (tl : Nat) (tb : Nat → Nat) (ft : Int32) (la : Nat → Int32) (szz : Nat → Nat) (ce : Nat → Nat → Int32) (hCI : CI X I a nb T tl tb ft la szz ce) (hbb : ¬ (0 ≤ b.toInt ∧ b.toInt < nb)) (hj : ¬ (0 ≤ j.toInt ∧ j.toInt < 4)) : RDi l D cT (cw cT X I a) y_So_scan b_So_scan 8 (some .int) 26 872 [.ref (X.1 0), .int b, .int j, .int lane, .int f, .int n] (fun r => r = -1) := by
  refine rd_enti (own := R_So) (by decide) rfl (Nat.le_of_ble_eq_true rfl) ?_
  intro p e s m args below meth c Q hC hK hP hret ls hl
  have hx := hC.1
  have hb := hC.2.1
  replace hl : lv_has ls 8 [(0, .ref (X.1 0)), (1, .int b), (2, .int j), (3, .int lane), (4, .int f), (5, .int n)] := hl
  refine lv_aload_n hx hb d_So_scan_0 rfl (lv_at hl 0 rfl) ?_
  refine lv_iload_n hx hb d_So_scan_1 rfl (lv_at hl 1 rfl) ?_
  refine rd_callq (np := 1) hC hK hP (cw_he (by omega) (cE_0)) rfl (c_So_bodyNumber_n l D cT X I a b nb hbb (hCI.1.1) hCI.1.2.2.1) rfl ⟨wl_So_79, wi_So_bodyNumber, ws_So_bodyNumber, wc_So_bodyNumber, wn_So⟩ ⟨by decide, by decide, by decide +kernel⟩ ⟨Nat.le_of_ble_eq_true rfl, Nat.le_of_ble_eq_true rfl⟩ hl.1 rfl (rest := []) rfl (Nat.le_of_ble_eq_true rfl) ⟨Nat.zero_le _, Nat.zero_le _⟩ d_So_scan_2 (fun rr hrr => ?_)
  subst hrr
  refine lv_astoreN (lv' := [(6, .null), (0, .ref (X.1 0)), (1, .int b), (2, .int j), (3, .int lane), (4, .int f), (5, .int n)]) hx hb d_So_scan_5 hl (by decide) rfl (fun ls hl => ?_)
  refine lv_aload_n hx hb d_So_scan_7 rfl (lv_at hl 1 rfl) ?_
  refine lv_iload_n hx hb d_So_scan_8 rfl (lv_at hl 3 rfl) ?_
  refine rd_callq (np := 1) hC hK hP (cw_he (by omega) (cE_0)) rfl (c_So_sheetNumber_n l D cT X I a j hj) rfl ⟨wl_So_182, wi_So_sheetNumber, ws_So_sheetNumber, wc_So_sheetNumber, wn_So⟩ ⟨by decide, by decide, by decide +kernel⟩ ⟨Nat.le_of_ble_eq_true rfl, Nat.le_of_ble_eq_true rfl⟩ hl.1 rfl (rest := []) rfl (Nat.le_of_ble_eq_true rfl) ⟨Nat.zero_le _, Nat.zero_le _⟩ d_So_scan_9 (fun rr hrr => ?_)
  subst hrr
  refine lv_astoreN (lv' := [(7, .null), (6, .null), (0, .ref (X.1 0)), (1, .int b), (2, .int j), (3, .int lane), (4, .int f), (5, .int n)]) hx hb d_So_scan_12 hl (by decide) rfl (fun ls hl => ?_)
  refine lv_aloadN hx hb d_So_scan_14 (lv_at hl 1 rfl) ?_
  refine lv_ifnullN (tgt := 42) hx hb d_So_scan_16 (by decide) ?_
  refine lv_iconst (v := (-1)) hx hb d_So_scan_42 (by decide) ?_
  exact hret _ _ _ d_So_scan_43 (rfl)
set_option maxHeartbeats 400000 in
set_option maxRecDepth 100000 in
theorem c_So_count_y (l : Launch) (D : va_G) (cT : Nat → ClassId) (X : CX) (I : Nat → Int32) (a : Nat → Nat → Int32) (w : Int32) (nb : Nat) (T : Nat → TX) (tl : Nat) (tb : Nat → Nat) (ft : Int32) (la : Nat → Int32) (szz : Nat → Nat) (ce : Nat → Nat → Int32) (hCI : CI X I a nb T tl tb ft la szz ce) (h0 : 0 < nb) : RDi l D cT (cw cT X I a) y_So_count b_So_count 2 (some .int) 2 42 [.ref (X.1 0), .int w] (fun r => r = if w = 0 then nI nb else if w = 1 then (if I 101 = -1 then -4 else I 102) else if w = 2 then I 11 else if w = 3 then nI (T (nb - 1)).1 else -1) := by
  refine rd_enti (own := R_So) (by decide) rfl (Nat.le_of_ble_eq_true rfl) ?_
  intro p e s m args below meth c Q hC hK hP hret ls hl
  have hx := hC.1
  have hb := hC.2.1
  replace hl : lv_has ls 2 [(0, .ref (X.1 0)), (1, .int w)] := hl
  refine lv_iload_n hx hb d_So_count_0 rfl (lv_at hl 1 rfl) ?_
  by_cases h1_0 : w = 0
  · have ev : (w).toInt = 0 := by rw [h1_0]; rfl
    refine lv_tableIn (tgt := 32) hx hb d_So_count_1 (by rw [ev]; decide) (by rw [ev]; decide) (by rw [ev]; rfl) (by decide) ?_
    refine lv_aload_n hx hb d_So_count_32 rfl (lv_at hl 0 rfl) ?_
    refine rd_get hC in_So hK hP 0 (cw_he (by omega) (cE_0)) rfl 3 (by decide) wf_So_31 rfl (v := .int (nI nb)) (congrArg (fun z : Int32 => some (Value.int z)) (hCI.1.1)) d_So_count_33 ?_
    exact hret _ _ _ d_So_count_36 (by rw [h1_0]; rfl)
  by_cases h1_1 : w = 1
  · have ev : (w).toInt = 1 := by rw [h1_1]; rfl
    refine lv_tableIn (tgt := 37) hx hb d_So_count_1 (by rw [ev]; decide) (by rw [ev]; decide) (by rw [ev]; rfl) (by decide) ?_
    refine lv_aload_n hx hb d_So_count_37 rfl (lv_at hl 0 rfl) ?_
    refine rd_call (np := 0) hC hK hP (cw_he (by omega) (cE_0)) rfl (c_So_cellsOfFirstSheet l D cT X I a nb T tl tb ft la szz ce hCI) rfl ⟨wl_So_207, wi_So_cellsOfFirstSheet, ws_So_cellsOfFirstSheet, wc_So_cellsOfFirstSheet, wn_So⟩ ⟨by decide, by decide, by decide +kernel⟩ ⟨Nat.le_of_ble_eq_true rfl, Nat.le_of_ble_eq_true rfl⟩ hl.1 rfl (rest := []) rfl (Nat.le_of_ble_eq_true rfl) ⟨Nat.zero_le _, Nat.zero_le _⟩ d_So_count_38 (fun rr hrr => ?_)
    subst hrr
    exact hret _ _ _ d_So_count_41 (by rw [h1_1]; rfl)
  by_cases h1_2 : w = 2
  · have ev : (w).toInt = 2 := by rw [h1_2]; rfl
    refine lv_tableIn (tgt := 42) hx hb d_So_count_1 (by rw [ev]; decide) (by rw [ev]; decide) (by rw [ev]; rfl) (by decide) ?_
    refine lv_aload_n hx hb d_So_count_42 rfl (lv_at hl 0 rfl) ?_
    refine rd_get hC in_So hK hP 0 (cw_he (by omega) (cE_0)) rfl 0 (by decide) wf_So_12 rfl (v := .ref (X.1 1)) (rfl) d_So_count_43 ?_
    refine rd_getN hC in_Tp hK hP 1 (cw_he (by omega) (cE_1)) rfl 1 (by decide) wF_So_56 rfl (v := .int (I 11)) (rfl) d_So_count_46 ?_
    exact hret _ _ _ d_So_count_49 (by rw [h1_2]; rfl)
  by_cases h1_3 : w = 3
  · have ev : (w).toInt = 3 := by rw [h1_3]; rfl
    refine lv_tableIn (tgt := 50) hx hb d_So_count_1 (by rw [ev]; decide) (by rw [ev]; decide) (by rw [ev]; rfl) (by decide) ?_
    refine lv_aload_n hx hb d_So_count_50 rfl (lv_at hl 0 rfl) ?_
    refine rd_call (np := 0) hC hK hP (cw_he (by omega) (cE_0)) rfl (c_So_textsOfLatestBody_y l D cT X I a nb T tl tb ft la szz ce hCI h0) rfl ⟨wl_So_210, wi_So_textsOfLatestBody, ws_So_textsOfLatestBody, wc_So_textsOfLatestBody, wn_So⟩ ⟨by decide, by decide, by decide +kernel⟩ ⟨Nat.le_of_ble_eq_true rfl, Nat.le_of_ble_eq_true rfl⟩ hl.1 rfl (rest := []) rfl (Nat.le_of_ble_eq_true rfl) ⟨Nat.zero_le _, Nat.zero_le _⟩ d_So_count_51 (fun rr hrr => ?_)
    subst hrr
    exact hret _ _ _ d_So_count_54 (by rw [h1_3]; rfl)
  have ev : (w).toInt < 0 ∨ 3 < (w).toInt := by
    have z0 : (w).toInt ≠ 0 := fun q => h1_0 (Int32.toInt_inj.mp (q.trans (by rfl)))
    have z1 : (w).toInt ≠ 1 := fun q => h1_1 (Int32.toInt_inj.mp (q.trans (by rfl)))
    have z2 : (w).toInt ≠ 2 := fun q => h1_2 (Int32.toInt_inj.mp (q.trans (by rfl)))
    have z3 : (w).toInt ≠ 3 := fun q => h1_3 (Int32.toInt_inj.mp (q.trans (by rfl)))
    omega
  refine lv_tableOut (tgt := 55) hx hb d_So_count_1 ev (by decide) ?_
  refine lv_iconst (v := (-1)) hx hb d_So_count_55 (by decide) ?_
  exact hret _ _ _ d_So_count_56 (by rw [if_neg h1_0, if_neg h1_1, if_neg h1_2, if_neg h1_3])
set_option maxHeartbeats 400000 in
set_option maxRecDepth 100000 in
theorem c_So_count_n (l : Launch) (D : va_G) (cT : Nat → ClassId) (X : CX) (I : Nat → Int32) (a : Nat → Nat → Int32) (w : Int32) (nb : Nat) (T : Nat → TX) (tl : Nat) (tb : Nat → Nat) (ft : Int32) (la : Nat → Int32) (szz : Nat → Nat) (ce : Nat → Nat → Int32) (hCI : CI X I a nb T tl tb ft la szz ce) (h0 : nb = 0) : RDi l D cT (cw cT X I a) y_So_count b_So_count 2 (some .int) 2 42 [.ref (X.1 0), .int w] (fun r => r = if w = 0 then nI nb else if w = 1 then (if I 101 = -1 then -4 else I 102) else if w = 2 then I 11 else if w = 3 then -4 else -1) := by
  refine rd_enti (own := R_So) (by decide) rfl (Nat.le_of_ble_eq_true rfl) ?_
  intro p e s m args below meth c Q hC hK hP hret ls hl
  have hx := hC.1
  have hb := hC.2.1
  replace hl : lv_has ls 2 [(0, .ref (X.1 0)), (1, .int w)] := hl
  refine lv_iload_n hx hb d_So_count_0 rfl (lv_at hl 1 rfl) ?_
  by_cases h1_0 : w = 0
  · have ev : (w).toInt = 0 := by rw [h1_0]; rfl
    refine lv_tableIn (tgt := 32) hx hb d_So_count_1 (by rw [ev]; decide) (by rw [ev]; decide) (by rw [ev]; rfl) (by decide) ?_
    refine lv_aload_n hx hb d_So_count_32 rfl (lv_at hl 0 rfl) ?_
    refine rd_get hC in_So hK hP 0 (cw_he (by omega) (cE_0)) rfl 3 (by decide) wf_So_31 rfl (v := .int (nI nb)) (congrArg (fun z : Int32 => some (Value.int z)) (hCI.1.1)) d_So_count_33 ?_
    exact hret _ _ _ d_So_count_36 (by rw [h1_0]; rfl)
  by_cases h1_1 : w = 1
  · have ev : (w).toInt = 1 := by rw [h1_1]; rfl
    refine lv_tableIn (tgt := 37) hx hb d_So_count_1 (by rw [ev]; decide) (by rw [ev]; decide) (by rw [ev]; rfl) (by decide) ?_
    refine lv_aload_n hx hb d_So_count_37 rfl (lv_at hl 0 rfl) ?_
    refine rd_call (np := 0) hC hK hP (cw_he (by omega) (cE_0)) rfl (c_So_cellsOfFirstSheet l D cT X I a nb T tl tb ft la szz ce hCI) rfl ⟨wl_So_207, wi_So_cellsOfFirstSheet, ws_So_cellsOfFirstSheet, wc_So_cellsOfFirstSheet, wn_So⟩ ⟨by decide, by decide, by decide +kernel⟩ ⟨Nat.le_of_ble_eq_true rfl, Nat.le_of_ble_eq_true rfl⟩ hl.1 rfl (rest := []) rfl (Nat.le_of_ble_eq_true rfl) ⟨Nat.zero_le _, Nat.zero_le _⟩ d_So_count_38 (fun rr hrr => ?_)
    subst hrr
    exact hret _ _ _ d_So_count_41 (by rw [h1_1]; rfl)
  by_cases h1_2 : w = 2
  · have ev : (w).toInt = 2 := by rw [h1_2]; rfl
    refine lv_tableIn (tgt := 42) hx hb d_So_count_1 (by rw [ev]; decide) (by rw [ev]; decide) (by rw [ev]; rfl) (by decide) ?_
    refine lv_aload_n hx hb d_So_count_42 rfl (lv_at hl 0 rfl) ?_
    refine rd_get hC in_So hK hP 0 (cw_he (by omega) (cE_0)) rfl 0 (by decide) wf_So_12 rfl (v := .ref (X.1 1)) (rfl) d_So_count_43 ?_
    refine rd_getN hC in_Tp hK hP 1 (cw_he (by omega) (cE_1)) rfl 1 (by decide) wF_So_56 rfl (v := .int (I 11)) (rfl) d_So_count_46 ?_
    exact hret _ _ _ d_So_count_49 (by rw [h1_2]; rfl)
  by_cases h1_3 : w = 3
  · have ev : (w).toInt = 3 := by rw [h1_3]; rfl
    refine lv_tableIn (tgt := 50) hx hb d_So_count_1 (by rw [ev]; decide) (by rw [ev]; decide) (by rw [ev]; rfl) (by decide) ?_
    refine lv_aload_n hx hb d_So_count_50 rfl (lv_at hl 0 rfl) ?_
    refine rd_call (np := 0) hC hK hP (cw_he (by omega) (cE_0)) rfl (c_So_textsOfLatestBody_n l D cT X I a nb T tl tb ft la szz ce hCI h0) rfl ⟨wl_So_210, wi_So_textsOfLatestBody, ws_So_textsOfLatestBody, wc_So_textsOfLatestBody, wn_So⟩ ⟨by decide, by decide, by decide +kernel⟩ ⟨Nat.le_of_ble_eq_true rfl, Nat.le_of_ble_eq_true rfl⟩ hl.1 rfl (rest := []) rfl (Nat.le_of_ble_eq_true rfl) ⟨Nat.zero_le _, Nat.zero_le _⟩ d_So_count_51 (fun rr hrr => ?_)
    subst hrr
    exact hret _ _ _ d_So_count_54 (by rw [h1_3]; rfl)
  have ev : (w).toInt < 0 ∨ 3 < (w).toInt := by
    have z0 : (w).toInt ≠ 0 := fun q => h1_0 (Int32.toInt_inj.mp (q.trans (by rfl)))
    have z1 : (w).toInt ≠ 1 := fun q => h1_1 (Int32.toInt_inj.mp (q.trans (by rfl)))
    have z2 : (w).toInt ≠ 2 := fun q => h1_2 (Int32.toInt_inj.mp (q.trans (by rfl)))
    have z3 : (w).toInt ≠ 3 := fun q => h1_3 (Int32.toInt_inj.mp (q.trans (by rfl)))
    omega
  refine lv_tableOut (tgt := 55) hx hb d_So_count_1 ev (by decide) ?_
  refine lv_iconst (v := (-1)) hx hb d_So_count_55 (by decide) ?_
  exact hret _ _ _ d_So_count_56 (by rw [if_neg h1_0, if_neg h1_1, if_neg h1_2, if_neg h1_3])
