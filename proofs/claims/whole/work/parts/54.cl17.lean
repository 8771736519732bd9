/-! the class: rules, spans, rays, the tape, the sheets -/
theorem ev_at {t : TX} {x y z : Int} (h : ∀ B, evF t.2.1 t.2.2.1 10 0 B = spT t B) : (evF t.2.1 t.2.2.1 10 0 (bx6 x x y y z z)).1 = vl t x y z := by rw [h]; rfl
theorem BX6_bx {x u y v z w : Int} (h1 : x ≤ u) (h2 : y ≤ v) (h3 : z ≤ w) : BX6 (bx6 x u y v z w) := ⟨h1, h2, h3⟩
theorem bx6_k {x u y v z w : Int} (h : (-1000 ≤ x ∧ x ≤ 1000) ∧ (-1000 ≤ u ∧ u ≤ 1000) ∧ (-1000 ≤ y ∧ y ≤ 1000) ∧ (-1000 ≤ v ∧ v ≤ 1000) ∧ (-1000 ≤ z ∧ z ≤ 1000) ∧ (-1000 ≤ w ∧ w ≤ 1000)) : ∀ i, -(1300 - 20 * ((10 : Nat) : Int)) ≤ bx6 x u y v z w i ∧ bx6 x u y v z w i ≤ 1300 - 20 * ((10 : Nat) : Int) := fun i => by
  have := bx6_b h i
  omega
set_option maxHeartbeats 400000 in
set_option maxRecDepth 100000 in
theorem c_So_rule_y (l : Launch) (D : va_G) (cT : Nat → ClassId) (X : CX) (I : Nat → Int32) (a : Nat → Nat → Int32) (b : Nat) (x : Int32) (y : Int32) (z : Int32) (nb : Nat) (T : Nat → TX) (tl : Nat) (tb : Nat → Nat) (ft : Int32) (la : Nat → Int32) (szz : Nat → Nat) (ce : Nat → Nat → Int32) (hCI : CI X I a nb T tl tb ft la szz ce) (hbb : b < nb) : RDi l D cT (cw cT X I a) y_So_rule b_So_rule 6 (some .int) 25 900 [.ref (X.1 0), .int (nI b), .int x, .int y, .int z] (fun r => r = if (-1000 ≤ x.toInt ∧ x.toInt ≤ 1000) ∧ (-1000 ≤ y.toInt ∧ y.toInt ≤ 1000) ∧ (-1000 ≤ z.toInt ∧ z.toInt ≤ 1000) then iI (vl (T b) x.toInt y.toInt z.toInt) else -1000000000) := by
  refine rd_enti (own := R_So) (by decide) rfl (Nat.le_of_ble_eq_true rfl) ?_
  intro p e s m args below meth c Q hC hK hP hret ls hl
  have hx := hC.1
  have hb := hC.2.1
  replace hl : lv_has ls 6 [(0, .ref (X.1 0)), (1, .int (nI b)), (2, .int x), (3, .int y), (4, .int z)] := hl
  refine lv_aload_n hx hb d_So_rule_0 rfl (lv_at hl 0 rfl) ?_
  refine lv_iload_n hx hb d_So_rule_1 rfl (lv_at hl 1 rfl) ?_
  refine rd_callq (np := 1) hC hK hP (cw_he (by omega) (cE_0)) rfl (c_So_bodyNumber_y l D cT X I a b nb (by omega) (hCI.1.1) hCI.1.2.2.1 hCI.1.2.2.2.1) rfl ⟨wl_So_79, wi_So_bodyNumber, ws_So_bodyNumber, wc_So_bodyNumber, wn_So⟩ ⟨by decide, by decide, by decide +kernel⟩ ⟨Nat.le_of_ble_eq_true rfl, Nat.le_of_ble_eq_true rfl⟩ hl.1 rfl (rest := []) rfl (Nat.le_of_ble_eq_true rfl) ⟨Nat.zero_le _, Nat.zero_le _⟩ d_So_rule_2 (fun rr hrr => ?_)
  subst hrr
  refine lv_astore (lv' := [(5, .ref (X.1 (18 + 3 * b))), (0, .ref (X.1 0)), (1, .int (nI b)), (2, .int x), (3, .int y), (4, .int z)]) hx hb d_So_rule_5 hl (by decide) rfl (fun ls hl => ?_)
  refine lv_aload hx hb d_So_rule_7 (lv_at hl 0 rfl) ?_
  refine lv_ifnull hx hb d_So_rule_9 ?_
  refine lv_iload_n hx hb d_So_rule_12 rfl (lv_at hl 3 rfl) ?_
  refine lv_sipush (v := 1000) hx hb d_So_rule_13 (by decide) ?_
  refine st_calli (np := 2) hC (c_So_isNear l x 1000 x.toInt (rfl) (by omega) (by omega)) ⟨wl_So_83, wt_So_isNear, wc_So_isNear, wn_So⟩ ⟨by decide, by decide, by decide +kernel⟩ ⟨Nat.le_of_ble_eq_true rfl, Nat.le_of_ble_eq_true rfl⟩ hl.1 rfl (rest := []) rfl (Nat.le_of_ble_eq_true rfl) ⟨Nat.zero_le _, Nat.zero_le _⟩ d_So_rule_16 (fun rr hrr => ?_)
  subst hrr
  refine bz_eq (tgt := 43) hx hb d_So_rule_19 (by decide) (fun h1 => ?_) (fun h1 => ?_)
  · skip
    refine lv_ldc (v := (-1000000000)) hx hb hC.2.2.2.1 (hC.2.2.2.2 _ wx_So_87) d_So_rule_43 ?_
    exact hret _ _ _ d_So_rule_45 (by rw [if_neg (by omega)])
  · skip
    refine lv_iload_n hx hb d_So_rule_22 rfl (lv_at hl 4 rfl) ?_
    refine lv_sipush (v := 1000) hx hb d_So_rule_23 (by decide) ?_
    refine st_calli (np := 2) hC (c_So_isNear l y 1000 y.toInt (rfl) (by omega) (by omega)) ⟨wl_So_83, wt_So_isNear, wc_So_isNear, wn_So⟩ ⟨by decide, by decide, by decide +kernel⟩ ⟨Nat.le_of_ble_eq_true rfl, Nat.le_of_ble_eq_true rfl⟩ hl.1 rfl (rest := []) rfl (Nat.le_of_ble_eq_true rfl) ⟨Nat.zero_le _, Nat.zero_le _⟩ d_So_rule_26 (fun rr hrr => ?_)
    subst hrr
    refine bz_eq (tgt := 43) hx hb d_So_rule_29 (by decide) (fun h2 => ?_) (fun h2 => ?_)
    · skip
      refine lv_ldc (v := (-1000000000)) hx hb hC.2.2.2.1 (hC.2.2.2.2 _ wx_So_87) d_So_rule_43 ?_
      exact hret _ _ _ d_So_rule_45 (by rw [if_neg (by omega)])
    · skip
      refine lv_iload hx hb d_So_rule_32 (lv_at hl 5 rfl) ?_
      refine lv_sipush (v := 1000) hx hb d_So_rule_34 (by decide) ?_
      refine st_calli (np := 2) hC (c_So_isNear l z 1000 z.toInt (rfl) (by omega) (by omega)) ⟨wl_So_83, wt_So_isNear, wc_So_isNear, wn_So⟩ ⟨by decide, by decide, by decide +kernel⟩ ⟨Nat.le_of_ble_eq_true rfl, Nat.le_of_ble_eq_true rfl⟩ hl.1 rfl (rest := []) rfl (Nat.le_of_ble_eq_true rfl) ⟨Nat.zero_le _, Nat.zero_le _⟩ d_So_rule_37 (fun rr hrr => ?_)
      subst hrr
      refine bz_ne (tgt := 46) hx hb d_So_rule_40 (by decide) (fun h3 => ?_) (fun h3 => ?_)
      · skip
        rw [iI_of x, iI_of y, iI_of z] at hl
        have hbn9 : b < X.2.2.2.1 := by rw [hCI.1.2.1]; exact hbb
        obtain ⟨hF9, hrp, hE, -⟩ := hCI.1.2.2.2.2 b hbb
        have hF : FT (cw cT X I a) (T b).2.1 (T b).2.2.1 10 0 (X.2.1 (18 + 3 * b)) := FT_up hF9
        refine lv_aload hx hb d_So_rule_46 (lv_at hl 0 rfl) ?_
        refine rd_getN hC in_Bo hK hP (18 + 3 * b) (cw_he (by omega) (cE_B b)) rfl 0 (by decide) wF_So_88 rfl (v := .ref (X.2.1 (18 + 3 * b))) (rfl) d_So_rule_48 ?_
        refine lv_iload_n hx hb d_So_rule_51 rfl (lv_at hl 3 rfl) ?_
        refine lv_iload_n hx hb d_So_rule_52 rfl (lv_at hl 4 rfl) ?_
        refine lv_iload hx hb d_So_rule_53 (lv_at hl 5 rfl) ?_
        refine fo_call (np := 3) hC hK hP (VA_v l D cT _ hrp 10 0 _ (bx6 x.toInt x.toInt y.toInt y.toInt z.toInt z.toInt) (by decide) hF (PT6_bx _ _ _) (bx6_k (by omega))) ⟨wl_So_92, wq_Fo_valueAt⟩ wD_valueAt ⟨by decide, by decide, by decide +kernel⟩ ⟨Nat.le_of_ble_eq_true rfl, Nat.le_of_ble_eq_true rfl⟩ hl.1 rfl (rest := []) rfl (Nat.le_of_ble_eq_true rfl) ⟨Nat.zero_le _, Nat.zero_le _⟩ d_So_rule_55 (fun rr hrr => ?_)
        subst hrr
        exact hret _ _ _ d_So_rule_58 (by rw [if_pos (by omega), ev_at hE])
      · skip
        refine lv_ldc (v := (-1000000000)) hx hb hC.2.2.2.1 (hC.2.2.2.2 _ wx_So_87) d_So_rule_43 ?_
        exact hret _ _ _ d_So_rule_45 (by rw [if_neg (by omega)])
set_option maxHeartbeats 400000 in
set_option maxRecDepth 100000 in
theorem c_So_rule_n (l : Launch) (D : va_G) (cT : Nat → ClassId) (X : CX) (I : Nat → Int32) (a : Nat → Nat → Int32) (b : Int32) (x : Int32) (y : Int32) (z : Int32) (nb : Nat) (T : Nat → TX) (tl : Nat) (tb : Nat → Nat) (ft : Int32) (la : Nat → Int32) (szz : Nat → Nat) (ce : Nat → Nat → Int32) (hCI : CI X I a nb T tl tb ft la szz ce) (hbb : ¬ (0 ≤ b.toInt ∧ b.toInt < nb)) : RDi l D cT (cw cT X I a) y_So_rule b_So_rule 6 (some .int) 25 900 [.ref (X.1 0), .int b, .int x, .int y, .int z] (fun r => r = -1000000000) := by
  refine rd_enti (own := R_So) (by decide) rfl (Nat.le_of_ble_eq_true rfl) ?_
  intro p e s m args below meth c Q hC hK hP hret ls hl
  have hx := hC.1
  have hb := hC.2.1
  replace hl : lv_has ls 6 [(0, .ref (X.1 0)), (1, .int b), (2, .int x), (3, .int y), (4, .int z)] := hl
  refine lv_aload_n hx hb d_So_rule_0 rfl (lv_at hl 0 rfl) ?_
  refine lv_iload_n hx hb d_So_rule_1 rfl (lv_at hl 1 rfl) ?_
  refine rd_callq (np := 1) hC hK hP (cw_he (by omega) (cE_0)) rfl (c_So_bodyNumber_n l D cT X I a b nb hbb (hCI.1.1) hCI.1.2.2.1) rfl ⟨wl_So_79, wi_So_bodyNumber, ws_So_bodyNumber, wc_So_bodyNumber, wn_So⟩ ⟨by decide, by decide, by decide +kernel⟩ ⟨Nat.le_of_ble_eq_true rfl, Nat.le_of_ble_eq_true rfl⟩ hl.1 rfl (rest := []) rfl (Nat.le_of_ble_eq_true rfl) ⟨Nat.zero_le _, Nat.zero_le _⟩ d_So_rule_2 (fun rr hrr => ?_)
  subst hrr
  refine lv_astoreN (lv' := [(5, .null), (0, .ref (X.1 0)), (1, .int b), (2, .int x), (3, .int y), (4, .int z)]) hx hb d_So_rule_5 hl (by decide) rfl (fun ls hl => ?_)
  refine lv_aloadN hx hb d_So_rule_7 (lv_at hl 0 rfl) ?_
  refine lv_ifnullN (tgt := 43) hx hb d_So_rule_9 (by decide) ?_
  refine lv_ldc (v := (-1000000000)) hx hb hC.2.2.2.1 (hC.2.2.2.2 _ wx_So_87) d_So_rule_43 ?_
  exact hret _ _ _ d_So_rule_45 (rfl)
set_option maxHeartbeats 400000 in
set_option maxRecDepth 100000 in
theorem c_So_span_y (l : Launch) (D : va_G) (cT : Nat → ClassId) (X : CX) (I : Nat → Int32) (a : Nat → Nat → Int32) (b : Nat) (x : Int32) (y : Int32) (z : Int32) (u : Int32) (v : Int32) (w : Int32) (top : Int32) (nb : Nat) (T : Nat → TX) (tl : Nat) (tb : Nat → Nat) (ft : Int32) (la : Nat → Int32) (szz : Nat → Nat) (ce : Nat → Nat → Int32) (hCI : CI X I a nb T tl tb ft la szz ce) (hbb : b < nb) (htop : top = 0 ∨ top = 1) : RDi l D cT (cw cT X I a) y_So_span b_So_span 10 (some .int) 25 900 [.ref (X.1 0), .int (nI b), .int x, .int y, .int z, .int u, .int v, .int w, .int top] (fun r => r = if (-7 ≤ x.toInt ∧ x.toInt ≤ 7 ∧ -7 ≤ y.toInt ∧ y.toInt ≤ 7 ∧ -7 ≤ z.toInt ∧ z.toInt ≤ 7) ∧ (-7 ≤ u.toInt ∧ u.toInt ≤ 7 ∧ -7 ≤ v.toInt ∧ v.toInt ≤ 7 ∧ -7 ≤ w.toInt ∧ w.toInt ≤ 7) ∧ x.toInt ≤ u.toInt ∧ y.toInt ≤ v.toInt ∧ z.toInt ≤ w.toInt then iI (lh top (spT (T b) (bx6 x.toInt u.toInt y.toInt v.toInt z.toInt w.toInt))) else -1000000000) := by
  refine rd_enti (own := R_So) (by decide) rfl (Nat.le_of_ble_eq_true rfl) ?_
  intro p e s m args below meth c Q hC hK hP hret ls hl
  have hx := hC.1
  have hb := hC.2.1
  replace hl : lv_has ls 10 [(0, .ref (X.1 0)), (1, .int (nI b)), (2, .int x), (3, .int y), (4, .int z), (5, .int u), (6, .int v), (7, .int w), (8, .int top)] := hl
  refine lv_aload_n hx hb d_So_span_0 rfl (lv_at hl 0 rfl) ?_
  refine lv_iload_n hx hb d_So_span_1 rfl (lv_at hl 1 rfl) ?_
  refine rd_callq (np := 1) hC hK hP (cw_he (by omega) (cE_0)) rfl (c_So_bodyNumber_y l D cT X I a b nb (by omega) (hCI.1.1) hCI.1.2.2.1 hCI.1.2.2.2.1) rfl ⟨wl_So_79, wi_So_bodyNumber, ws_So_bodyNumber, wc_So_bodyNumber, wn_So⟩ ⟨by decide, by decide, by decide +kernel⟩ ⟨Nat.le_of_ble_eq_true rfl, Nat.le_of_ble_eq_true rfl⟩ hl.1 rfl (rest := []) rfl (Nat.le_of_ble_eq_true rfl) ⟨Nat.zero_le _, Nat.zero_le _⟩ d_So_span_2 (fun rr hrr => ?_)
  subst hrr
  refine lv_astore (lv' := [(9, .ref (X.1 (18 + 3 * b))), (0, .ref (X.1 0)), (1, .int (nI b)), (2, .int x), (3, .int y), (4, .int z), (5, .int u), (6, .int v), (7, .int w), (8, .int top)]) hx hb d_So_span_5 hl (by decide) rfl (fun ls hl => ?_)
  refine lv_aload hx hb d_So_span_7 (lv_at hl 0 rfl) ?_
  refine lv_ifnull hx hb d_So_span_9 ?_
  refine lv_iload_n hx hb d_So_span_12 rfl (lv_at hl 3 rfl) ?_
  refine lv_iload_n hx hb d_So_span_13 rfl (lv_at hl 4 rfl) ?_
  refine lv_iload hx hb d_So_span_14 (lv_at hl 5 rfl) ?_
  refine st_calli (np := 3) hC (c_So_isPoint l x y z x.toInt y.toInt z.toInt rfl rfl rfl) ⟨wl_So_98, wt_So_isPoint, wc_So_isPoint, wn_So⟩ ⟨by decide, by decide, by decide +kernel⟩ ⟨Nat.le_of_ble_eq_true rfl, Nat.le_of_ble_eq_true rfl⟩ hl.1 rfl (rest := []) rfl (Nat.le_of_ble_eq_true rfl) ⟨Nat.zero_le _, Nat.zero_le _⟩ d_So_span_16 (fun rr hrr => ?_)
  subst hrr
  refine bz_eq (tgt := 53) hx hb d_So_span_19 (by decide) (fun h1 => ?_) (fun h1 => ?_)
  · skip
    refine lv_ldc (v := (-1000000000)) hx hb hC.2.2.2.1 (hC.2.2.2.2 _ wx_So_87) d_So_span_53 ?_
    exact hret _ _ _ d_So_span_55 (by rw [if_neg (by omega)])
  · skip
    refine lv_iload hx hb d_So_span_22 (lv_at hl 6 rfl) ?_
    refine lv_iload hx hb d_So_span_24 (lv_at hl 7 rfl) ?_
    refine lv_iload hx hb d_So_span_26 (lv_at hl 8 rfl) ?_
    refine st_calli (np := 3) hC (c_So_isPoint l u v w u.toInt v.toInt w.toInt rfl rfl rfl) ⟨wl_So_98, wt_So_isPoint, wc_So_isPoint, wn_So⟩ ⟨by decide, by decide, by decide +kernel⟩ ⟨Nat.le_of_ble_eq_true rfl, Nat.le_of_ble_eq_true rfl⟩ hl.1 rfl (rest := []) rfl (Nat.le_of_ble_eq_true rfl) ⟨Nat.zero_le _, Nat.zero_le _⟩ d_So_span_28 (fun rr hrr => ?_)
    subst hrr
    refine bz_eq (tgt := 53) hx hb d_So_span_31 (by decide) (fun h2 => ?_) (fun h2 => ?_)
    · skip
      refine lv_ldc (v := (-1000000000)) hx hb hC.2.2.2.1 (hC.2.2.2.2 _ wx_So_87) d_So_span_53 ?_
      exact hret _ _ _ d_So_span_55 (by rw [if_neg (by omega)])
    · skip
      refine lv_iload hx hb d_So_span_34 (lv_at hl 6 rfl) ?_
      refine lv_iload_n hx hb d_So_span_36 rfl (lv_at hl 3 rfl) ?_
      refine yc_lt hx hb u.toInt x.toInt (rfl) (rfl) d_So_span_37 (tgt := 53) (by decide) (fun h3 => ?_) (fun h3 => ?_)
      · skip
        refine lv_ldc (v := (-1000000000)) hx hb hC.2.2.2.1 (hC.2.2.2.2 _ wx_So_87) d_So_span_53 ?_
        exact hret _ _ _ d_So_span_55 (by rw [if_neg (by omega)])
      · skip
        refine lv_iload hx hb d_So_span_40 (lv_at hl 7 rfl) ?_
        refine lv_iload_n hx hb d_So_span_42 rfl (lv_at hl 4 rfl) ?_
        refine yc_lt hx hb v.toInt y.toInt (rfl) (rfl) d_So_span_43 (tgt := 53) (by decide) (fun h4 => ?_) (fun h4 => ?_)
        · skip
          refine lv_ldc (v := (-1000000000)) hx hb hC.2.2.2.1 (hC.2.2.2.2 _ wx_So_87) d_So_span_53 ?_
          exact hret _ _ _ d_So_span_55 (by rw [if_neg (by omega)])
        · skip
          refine lv_iload hx hb d_So_span_46 (lv_at hl 8 rfl) ?_
          refine lv_iload hx hb d_So_span_48 (lv_at hl 5 rfl) ?_
          refine yc_ge hx hb w.toInt z.toInt (rfl) (rfl) d_So_span_50 (tgt := 56) (by decide) (fun h5 => ?_) (fun h5 => ?_)
          · skip
            rw [iI_of x, iI_of y, iI_of z, iI_of u, iI_of v, iI_of w] at hl
            have hbn9 : b < X.2.2.2.1 := by rw [hCI.1.2.1]; exact hbb
            obtain ⟨hF9, hrp, hE, -⟩ := hCI.1.2.2.2.2 b hbb
            have hF : FT (cw cT X I a) (T b).2.1 (T b).2.2.1 10 0 (X.2.1 (18 + 3 * b)) := FT_up hF9
            refine lv_aload hx hb d_So_span_56 (lv_at hl 0 rfl) ?_
            refine rd_getN hC in_Bo hK hP (18 + 3 * b) (cw_he (by omega) (cE_B b)) rfl 0 (by decide) wF_So_88 rfl (v := .ref (X.2.1 (18 + 3 * b))) (rfl) d_So_span_58 ?_
            refine lv_iload_n hx hb d_So_span_61 rfl (lv_at hl 3 rfl) ?_
            refine lv_iload_n hx hb d_So_span_62 rfl (lv_at hl 4 rfl) ?_
            refine lv_iload hx hb d_So_span_63 (lv_at hl 5 rfl) ?_
            refine lv_iload hx hb d_So_span_65 (lv_at hl 6 rfl) ?_
            refine lv_iload hx hb d_So_span_67 (lv_at hl 7 rfl) ?_
            refine lv_iload hx hb d_So_span_69 (lv_at hl 8 rfl) ?_
            refine lv_iload hx hb d_So_span_71 (lv_at hl 9 rfl) ?_
            refine fo_call (np := 7) hC hK hP (VA_b l D cT _ hrp 10 0 _ (bx6 x.toInt u.toInt y.toInt v.toInt z.toInt w.toInt) top htop (by decide) hF (BX6_bx (by omega) (by omega) (by omega)) (bx6_k (by omega))) ⟨wl_So_102, wq_Fo_bound⟩ wD_bound ⟨by decide, by decide, by decide +kernel⟩ ⟨Nat.le_of_ble_eq_true rfl, Nat.le_of_ble_eq_true rfl⟩ hl.1 rfl (rest := []) rfl (Nat.le_of_ble_eq_true rfl) ⟨Nat.zero_le _, Nat.zero_le _⟩ d_So_span_73 (fun rr hrr => ?_)
            subst hrr
            exact hret _ _ _ d_So_span_76 (by rw [if_pos (by omega), hE])
          · skip
            refine lv_ldc (v := (-1000000000)) hx hb hC.2.2.2.1 (hC.2.2.2.2 _ wx_So_87) d_So_span_53 ?_
            exact hret _ _ _ d_So_span_55 (by rw [if_neg (by omega)])
set_option maxHeartbeats 400000 in
set_option maxRecDepth 100000 in
theorem c_So_span_n (l : Launch) (D : va_G) (cT : Nat → ClassId) (X : CX) (I : Nat → Int32) (a : Nat → Nat → Int32) (b : Int32) (x : Int32) (y : Int32) (z : Int32) (u : Int32) (v : Int32) (w : Int32) (top : Int32) (nb : Nat) (T : Nat → TX) (tl : Nat) (tb : Nat → Nat) (ft : Int32) (la : Nat → Int32) (szz : Nat → Nat) (ce : Nat → Nat → Int32) (hCI : CI X I a nb T tl tb ft la szz ce) (hbb : ¬ (0 ≤ b.toInt ∧ b.toInt < nb)) : RDi l D cT (cw cT X I a) y_So_span b_So_span 10 (some .int) 25 900 [.ref (X.1 0), .int b, .int x, .int y, .int z, .int u, .int v, .int w, .int top] (fun r => r = -1000000000) := by
  refine rd_enti (own := R_So) (by decide) rfl (Nat.le_of_ble_eq_true rfl) ?_
  intro p e s m args below meth c Q hC hK hP hret ls hl
  have hx := hC.1
  have hb := hC.2.1
  replace hl : lv_has ls 10 [(0, .ref (X.1 0)), (1, .int b), (2, .int x), (3, .int y), (4, .int z), (5, .int u), (6, .int v), (7, .int w), (8, .int top)] := hl
  refine lv_aload_n hx hb d_So_span_0 rfl (lv_at hl 0 rfl) ?_
  refine lv_iload_n hx hb d_So_span_1 rfl (lv_at hl 1 rfl) ?_
  refine rd_callq (np := 1) hC hK hP (cw_he (by omega) (cE_0)) rfl (c_So_bodyNumber_n l D cT X I a b nb hbb (hCI.1.1) hCI.1.2.2.1) rfl ⟨wl_So_79, wi_So_bodyNumber, ws_So_bodyNumber, wc_So_bodyNumber, wn_So⟩ ⟨by decide, by decide, by decide +kernel⟩ ⟨Nat.le_of_ble_eq_true rfl, Nat.le_of_ble_eq_true rfl⟩ hl.1 rfl (rest := []) rfl (Nat.le_of_ble_eq_true rfl) ⟨Nat.zero_le _, Nat.zero_le _⟩ d_So_span_2 (fun rr hrr => ?_)
  subst hrr
  refine lv_astoreN (lv' := [(9, .null), (0, .ref (X.1 0)), (1, .int b), (2, .int x), (3, .int y), (4, .int z), (5, .int u), (6, .int v), (7, .int w), (8, .int top)]) hx hb d_So_span_5 hl (by decide) rfl (fun ls hl => ?_)
  refine lv_aloadN hx hb d_So_span_7 (lv_at hl 0 rfl) ?_
  refine lv_ifnullN (tgt := 53) hx hb d_So_span_9 (by decide) ?_
  refine lv_ldc (v := (-1000000000)) hx hb hC.2.2.2.1 (hC.2.2.2.2 _ wx_So_87) d_So_span_53 ?_
  exact hret _ _ _ d_So_span_55 (rfl)
set_option maxHeartbeats 400000 in
set_option maxRecDepth 100000 in
theorem c_So_fault (l : Launch) (D : va_G) (cT : Nat → ClassId) (X : CX) (I : Nat → Int32) (a : Nat → Nat → Int32)    : RDi l D cT (cw cT X I a) y_So_fault b_So_fault 1 (some .int) 0 0 [.ref (X.1 0)] (fun r => r = I 4) := by
  refine rd_enti (own := R_So) (by decide) rfl (Nat.le_of_ble_eq_true rfl) ?_
  intro p e s m args below meth c Q hC hK hP hret ls hl
  have hx := hC.1
  have hb := hC.2.1
  replace hl : lv_has ls 1 [(0, .ref (X.1 0))] := hl
  refine lv_aload_n hx hb d_So_fault_0 rfl (lv_at hl 0 rfl) ?_
  refine rd_get hC in_So hK hP 0 (cw_he (by omega) (cE_0)) rfl 4 (by decide) wf_So_35 rfl (v := .int (I 4)) (rfl) d_So_fault_1 ?_
  exact hret _ _ _ d_So_fault_4 (rfl)
set_option maxHeartbeats 400000 in
set_option maxRecDepth 100000 in
theorem c_So_end (l : Launch) (D : va_G) (cT : Nat → ClassId) (X : CX) (I : Nat → Int32) (a : Nat → Nat → Int32) (n : Int32)   : CMi l D cT X y_So_end b_So_end 3 (some .int) 1 21 [.ref (X.1 0), .int n] I a (fun r u => if 0 ≤ n.toInt ∧ n.toInt ≤ (I 11).toInt then r = I 11 ∧ u = (upd I 11 n, a) else r = -1 ∧ u = (I, a)) := by
  refine co_enti (own := R_So) (by decide) rfl (Nat.le_of_ble_eq_true rfl) ?_
  intro p e s m args below meth c Q hC hK hM hret ls hl
  have hx := hC.1
  have hb := hC.2.1
  replace hl : lv_has ls 3 [(0, .ref (X.1 0)), (1, .int n)] := hl
  refine lv_aload_n hx hb d_So_end_0 rfl (lv_at hl 0 rfl) ?_
  refine rd_get hC in_So hK hM.1 0 (cw_he (by omega) (cE_0)) rfl 0 (by decide) wf_So_12 rfl (v := .ref (X.1 1)) (rfl) d_So_end_1 ?_
  refine rd_getN hC in_Tp hK hM.1 1 (cw_he (by omega) (cE_1)) rfl 1 (by decide) wF_So_56 rfl (v := .int (I 11)) (rfl) d_So_end_4 ?_
  refine lv_istore_n (lv' := [(2, .int (I 11)), (0, .ref (X.1 0)), (1, .int n)]) hx hb d_So_end_7 rfl hl (by decide) rfl (fun ls hl => ?_)
  refine lv_aload_n hx hb d_So_end_8 rfl (lv_at hl 1 rfl) ?_
  refine rd_get hC in_So hK hM.1 0 (cw_he (by omega) (cE_0)) rfl 0 (by decide) wf_So_12 rfl (v := .ref (X.1 1)) (rfl) d_So_end_9 ?_
  refine lv_iload_n hx hb d_So_end_12 rfl (lv_at hl 2 rfl) ?_
  refine co_calli (np := 1) hC hK hM (k := 1) (by omega) (cE_1) rfl (c_Tp_shorten l D cT X I a n) rfl ⟨wl_So_59, wi_Tp_shorten, ws_Tp_shorten, wc_Tp_shorten, wn_Tp⟩ ⟨by decide, by decide, by decide +kernel⟩ ⟨Nat.le_of_ble_eq_true rfl, Nat.le_of_ble_eq_true rfl⟩ hl.1 rfl (rest := []) rfl (Nat.le_of_ble_eq_true rfl) ⟨Nat.zero_le _, Nat.zero_le _⟩ d_So_end_13 (fun rr1 I1 a1 H locs hp1 hM => ?_)
  refine lv_if_eq (tgt := 23) hx hb d_So_end_16 (by decide) (fun h2 => ?_) (fun h2 => ?_)
  · skip
    refine lv_iconst (v := (-1)) hx hb d_So_end_23 (by decide) ?_
    refine hret _ _ _ _ _ _ _ d_So_end_24 hM ?_
    by_cases z9 : 0 ≤ n.toInt ∧ n.toInt ≤ (I 11).toInt
    · rw [if_pos z9] at hp1 ⊢
      first | (exact ⟨rfl, hp1.2⟩; done) | (exact absurd (hp1.1.symm.trans (by assumption)) (by decide))
    · rw [if_neg z9] at hp1 ⊢
      first | (exact ⟨rfl, hp1.2⟩; done) | (exact absurd hp1.1 (by assumption))
  · skip
    refine lv_iload_n hx hb d_So_end_19 rfl (lv_at hl 0 rfl) ?_
    refine lv_goto (tgt := 24) hx hb d_So_end_20 (by decide) ?_
    refine hret _ _ _ _ _ _ _ d_So_end_24 hM ?_
    by_cases z9 : 0 ≤ n.toInt ∧ n.toInt ≤ (I 11).toInt
    · rw [if_pos z9] at hp1 ⊢
      first | (exact ⟨rfl, hp1.2⟩; done) | (exact absurd (hp1.1.symm.trans (by assumption)) (by decide))
    · rw [if_neg z9] at hp1 ⊢
      first | (exact ⟨rfl, hp1.2⟩; done) | (exact absurd hp1.1 (by assumption))
set_option maxHeartbeats 400000 in
set_option maxRecDepth 100000 in
theorem c_So_feed (l : Launch) (D : va_G) (cT : Nat → ClassId) (X : CX) (I : Nat → Int32) (a : Nat → Nat → Int32) (v : Int64) (n : Nat) (hn : I 11 = nI n) (h160 : n ≤ 160) : CMi l D cT X y_So_feed b_So_feed 3 (some .int) 1 23 [.ref (X.1 0), .long v] I a (fun r u => if 160 < n + 8 then r = -3 ∧ u = (I, a) else r = nI (n + 8) ∧ u = (upd I 11 (nI (n + 8)), va_up a 2 (pt (a 2) (bsg v) n 8))) := by
  refine co_enti (own := R_So) (by decide) rfl (Nat.le_of_ble_eq_true rfl) ?_
  intro p e s m args below meth c Q hC hK hM hret ls hl
  have hx := hC.1
  have hb := hC.2.1
  replace hl : lv_has ls 3 [(0, .ref (X.1 0)), (1, .long v)] := hl
  refine lv_aload_n hx hb d_So_feed_0 rfl (lv_at hl 0 rfl) ?_
  refine rd_get hC in_So hK hM.1 0 (cw_he (by omega) (cE_0)) rfl 0 (by decide) wf_So_12 rfl (v := .ref (X.1 1)) (rfl) d_So_feed_1 ?_
  refine lv_lload_n hx hb d_So_feed_4 rfl (lv_at hl 1 rfl) ?_
  refine co_calli (np := 1) hC hK hM (k := 1) (by omega) (cE_1) rfl (c_Tp_append l D cT X I a v n hn h160) rfl ⟨wl_So_52, wi_Tp_append, ws_Tp_append, wc_Tp_append, wn_Tp⟩ ⟨by decide, by decide, by decide +kernel⟩ ⟨Nat.le_of_ble_eq_true rfl, Nat.le_of_ble_eq_true rfl⟩ hl.1 rfl (rest := []) rfl (Nat.le_of_ble_eq_true rfl) ⟨Nat.zero_le _, Nat.zero_le _⟩ d_So_feed_5 (fun rr1 I1 a1 H locs hp1 hM => ?_)
  refine lv_if_eq (tgt := 21) hx hb d_So_feed_8 (by decide) (fun h2 => ?_) (fun h2 => ?_)
  · skip
    refine lv_bipush (v := (-3)) hx hb d_So_feed_21 (by decide) ?_
    refine hret _ _ _ _ _ _ _ d_So_feed_23 hM ?_
    by_cases z9 : 160 < n + 8
    · rw [if_pos z9] at hp1 ⊢
      first | (exact ⟨rfl, hp1.2⟩; done) | (exact absurd hp1.1 (by assumption))
    · rw [if_neg z9] at hp1 ⊢
      first | (refine ⟨?_, hp1.2⟩; have e9 : I1 11 = upd I 11 (nI (n + 8)) 11 := congrArg (fun u : CS => u.1 11) hp1.2; exact e9.trans pk_us) | (exact absurd (hp1.1.symm.trans (by assumption)) (by decide))
  · skip
    refine lv_aload_n hx hb d_So_feed_11 rfl (lv_at hl 0 rfl) ?_
    refine rd_get hC in_So hK hM.1 0 (cw_he (by omega) (cE_0)) rfl 0 (by decide) wf_So_12 rfl (v := .ref (X.1 1)) (rfl) d_So_feed_12 ?_
    refine rd_getN hC in_Tp hK hM.1 1 (cw_he (by omega) (cE_1)) rfl 1 (by decide) wF_So_56 rfl (v := .int (I1 11)) (rfl) d_So_feed_15 ?_
    refine lv_goto (tgt := 23) hx hb d_So_feed_18 (by decide) ?_
    refine hret _ _ _ _ _ _ _ d_So_feed_23 hM ?_
    by_cases z9 : 160 < n + 8
    · rw [if_pos z9] at hp1 ⊢
      first | (exact ⟨rfl, hp1.2⟩; done) | (exact absurd hp1.1 (by assumption))
    · rw [if_neg z9] at hp1 ⊢
      first | (refine ⟨?_, hp1.2⟩; have e9 : I1 11 = upd I 11 (nI (n + 8)) 11 := congrArg (fun u : CS => u.1 11) hp1.2; exact e9.trans pk_us) | (exact absurd (hp1.1.symm.trans (by assumption)) (by decide))
set_option maxHeartbeats 400000 in
set_option maxRecDepth 100000 in
theorem c_So_sheetNumber_y (l : Launch) (D : va_G) (cT : Nat → ClassId) (X : CX) (I : Nat → Int32) (a : Nat → Nat → Int32) (j : Nat)  (hj : j < 4) : RDq l D cT (cw cT X I a) y_So_sheetNumber b_So_sheetNumber 2 (some (.object "SignSolids$Sheet")) 0 0 [.ref (X.1 0), .int (nI j)] (fun o => o = some (X.1 (10 + 2 * j))) := by
  refine rd_entq (own := R_So) (by decide) rfl (Nat.le_of_ble_eq_true rfl) ?_
  intro p e s m args below meth c Q hC hK hP hret ls hl
  have hx := hC.1
  have hb := hC.2.1
  replace hl : lv_has ls 2 [(0, .ref (X.1 0)), (1, .int (nI j))] := hl
  refine lv_iload_n hx hb d_So_sheetNumber_0 rfl (lv_at hl 1 rfl) ?_
  refine zz_lt hx hb (↑j : Int) (by omega) (by omega) d_So_sheetNumber_1 (tgt := 18) (by decide) (fun h1 => ?_) (fun h1 => ?_)
  · skip
    refine lv_null hx hb d_So_sheetNumber_18 ?_
    exact hret _ _ _ (none) d_So_sheetNumber_19 rfl (by exfalso; omega)
  · skip
    refine lv_iload_n hx hb d_So_sheetNumber_4 rfl (lv_at hl 1 rfl) ?_
    refine lv_iconst (v := 4) hx hb d_So_sheetNumber_5 (by decide) ?_
    refine nc_ge hx hb j 4 (by omega) (by omega) d_So_sheetNumber_6 (tgt := 18) (by decide) (fun h2 => ?_) (fun h2 => ?_)
    · skip
      refine lv_null hx hb d_So_sheetNumber_18 ?_
      exact hret _ _ _ (none) d_So_sheetNumber_19 rfl (by exfalso; omega)
    · skip
      refine lv_aload_n hx hb d_So_sheetNumber_9 rfl (lv_at hl 0 rfl) ?_
      refine rd_get hC in_So hK hP 0 (cw_he (by omega) (cE_0)) rfl 6 (by decide) wf_So_47 rfl (v := .ref (X.1 9)) (rfl) d_So_sheetNumber_10 ?_
      refine lv_iload_n hx hb d_So_sheetNumber_13 rfl (lv_at hl 1 rfl) ?_
      refine rd_aald hC hK hP 5 9 (cw_he (by omega) (cE_9)) rfl j (i := nI j) (rfl) (by omega) (by decide) (v := .ref (X.1 (10 + 2 * j))) (rfl) d_So_sheetNumber_14 ?_
      refine lv_goto (tgt := 19) hx hb d_So_sheetNumber_15 (by decide) ?_
      exact hret _ _ _ (some (X.1 (10 + 2 * j))) d_So_sheetNumber_19 rfl (rfl)
set_option maxHeartbeats 400000 in
set_option maxRecDepth 100000 in
theorem c_So_sheetNumber_n (l : Launch) (D : va_G) (cT : Nat → ClassId) (X : CX) (I : Nat → Int32) (a : Nat → Nat → Int32) (j : Int32)  (hj : ¬ (0 ≤ j.toInt ∧ j.toInt < 4)) : RDq l D cT (cw cT X I a) y_So_sheetNumber b_So_sheetNumber 2 (some (.object "SignSolids$Sheet")) 0 0 [.ref (X.1 0), .int j] (fun o => o = none) := by
  refine rd_entq (own := R_So) (by decide) rfl (Nat.le_of_ble_eq_true rfl) ?_
  intro p e s m args below meth c Q hC hK hP hret ls hl
  have hx := hC.1
  have hb := hC.2.1
  replace hl : lv_has ls 2 [(0, .ref (X.1 0)), (1, .int j)] := hl
  refine lv_iload_n hx hb d_So_sheetNumber_0 rfl (lv_at hl 1 rfl) ?_
  refine yz_lt hx hb j.toInt (rfl) d_So_sheetNumber_1 (tgt := 18) (by decide) (fun h1 => ?_) (fun h1 => ?_)
  · skip
    refine lv_null hx hb d_So_sheetNumber_18 ?_
    exact hret _ _ _ (none) d_So_sheetNumber_19 rfl (by first | rfl | (exfalso; omega))
  · skip
    refine lv_iload_n hx hb d_So_sheetNumber_4 rfl (lv_at hl 1 rfl) ?_
    refine lv_iconst (v := 4) hx hb d_So_sheetNumber_5 (by decide) ?_
    refine yc_ge hx hb j.toInt 4 (rfl) (rfl) d_So_sheetNumber_6 (tgt := 18) (by decide) (fun h2 => ?_) (fun h2 => ?_)
    · skip
      refine lv_null hx hb d_So_sheetNumber_18 ?_
      exact hret _ _ _ (none) d_So_sheetNumber_19 rfl (by first | rfl | (exfalso; omega))
    · skip
      refine lv_aload_n hx hb d_So_sheetNumber_9 rfl (lv_at hl 0 rfl) ?_
      refine rd_get hC in_So hK hP 0 (cw_he (by omega) (cE_0)) rfl 6 (by decide) wf_So_47 rfl (v := .ref (X.1 9)) (rfl) d_So_sheetNumber_10 ?_
      refine lv_iload_n hx hb d_So_sheetNumber_13 rfl (lv_at hl 1 rfl) ?_
      refine rd_aald hC hK hP 5 9 (cw_he (by omega) (cE_9)) rfl 0 (i := j) (by exfalso; omega) (by decide) (by decide) (v := .ref (X.1 (10 + 2 * 0))) (rfl) d_So_sheetNumber_14 ?_
      refine lv_goto (tgt := 19) hx hb d_So_sheetNumber_15 (by decide) ?_
      exact hret _ _ _ (some (X.1 (10 + 2 * 0))) d_So_sheetNumber_19 rfl (by first | rfl | (exfalso; omega))
set_option maxHeartbeats 400000 in
set_option maxRecDepth 100000 in
theorem c_So_sheet_y (l : Launch) (D : va_G) (cT : Nat → ClassId) (X : CX) (I : Nat → Int32) (a : Nat → Nat → Int32) (j : Nat) (lane : Int32) (n : Int32)  (hj : j < 4) : CMi l D cT X y_So_sheet b_So_sheet 5 (some .int) 2 42 [.ref (X.1 0), .int (nI j), .int lane, .int n] I a (fun r u => if (0 ≤ lane.toInt ∧ lane.toInt ≤ 2) ∧ n.toInt ≤ 64 then (if n.toInt < 0 then r = -14 ∧ u = (I, a) else r = 1 ∧ u = (upd (upd I (10 * (10 + 2 * j) + 1) lane) (10 * (10 + 2 * j) + 2) n, va_up a (10 + 2 * j + 1) (zr (a (10 + 2 * j + 1)) 0 64))) else r = -1 ∧ u = (I, a)) := by
  refine co_enti (own := R_So) (by decide) rfl (Nat.le_of_ble_eq_true rfl) ?_
  intro p e s m args below meth c Q hC hK hM hret ls hl
  have hx := hC.1
  have hb := hC.2.1
  replace hl : lv_has ls 5 [(0, .ref (X.1 0)), (1, .int (nI j)), (2, .int lane), (3, .int n)] := hl
  refine lv_aload_n hx hb d_So_sheet_0 rfl (lv_at hl 0 rfl) ?_
  refine lv_iload_n hx hb d_So_sheet_1 rfl (lv_at hl 1 rfl) ?_
  refine rd_callq (np := 1) hC hK hM.1 (cw_he (by omega) (cE_0)) rfl (c_So_sheetNumber_y l D cT X I a j hj) rfl ⟨wl_So_182, wi_So_sheetNumber, ws_So_sheetNumber, wc_So_sheetNumber, wn_So⟩ ⟨by decide, by decide, by decide +kernel⟩ ⟨Nat.le_of_ble_eq_true rfl, Nat.le_of_ble_eq_true rfl⟩ hl.1 rfl (rest := []) rfl (Nat.le_of_ble_eq_true rfl) ⟨Nat.zero_le _, Nat.zero_le _⟩ d_So_sheet_2 (fun rr hrr => ?_)
  subst hrr
  refine lv_astore (lv' := [(4, .ref (X.1 (10 + 2 * j))), (0, .ref (X.1 0)), (1, .int (nI j)), (2, .int lane), (3, .int n)]) hx hb d_So_sheet_5 hl (by decide) rfl (fun ls hl => ?_)
  refine lv_aload hx hb d_So_sheet_7 (lv_at hl 0 rfl) ?_
  refine lv_ifnull hx hb d_So_sheet_9 ?_
  refine lv_iload_n hx hb d_So_sheet_12 rfl (lv_at hl 3 rfl) ?_
  refine st_calli (np := 1) hC (c_So_isLane l lane) ⟨wl_So_186, wt_So_isLane, wc_So_isLane, wn_So⟩ ⟨by decide, by decide, by decide +kernel⟩ ⟨Nat.le_of_ble_eq_true rfl, Nat.le_of_ble_eq_true rfl⟩ hl.1 rfl (rest := []) rfl (Nat.le_of_ble_eq_true rfl) ⟨Nat.zero_le _, Nat.zero_le _⟩ d_So_sheet_13 (fun rr hrr => ?_)
  subst hrr
  refine bz_eq (tgt := 25) hx hb d_So_sheet_16 (by decide) (fun h1 => ?_) (fun h1 => ?_)
  · skip
    refine lv_iconst (v := (-1)) hx hb d_So_sheet_25 (by decide) ?_
    refine hret _ _ _ _ _ _ _ d_So_sheet_26 hM ?_
    rw [if_neg (by omega)]
    exact ⟨rfl, rfl⟩
  · skip
    refine lv_iload_n hx hb d_So_sheet_19 rfl (lv_at hl 4 rfl) ?_
    refine lv_bipush (v := 64) hx hb d_So_sheet_20 (by decide) ?_
    refine yc_le hx hb n.toInt 64 (rfl) (rfl) d_So_sheet_22 (tgt := 27) (by decide) (fun h2 => ?_) (fun h2 => ?_)
    · skip
      refine lv_iload_n hx hb d_So_sheet_27 rfl (lv_at hl 4 rfl) ?_
      refine yz_ge hx hb n.toInt (rfl) d_So_sheet_28 (tgt := 34) (by decide) (fun h3 => ?_) (fun h3 => ?_)
      · skip
        refine lv_aload hx hb d_So_sheet_34 (lv_at hl 0 rfl) ?_
        refine lv_iload_n hx hb d_So_sheet_36 rfl (lv_at hl 3 rfl) ?_
        refine lv_iload_n hx hb d_So_sheet_37 rfl (lv_at hl 4 rfl) ?_
        refine co_callv (np := 2) hC hK hM (k := 10 + 2 * j) (by omega) (cE_S (by omega)) rfl (c_Sh_renew l D cT X I a j lane n hj) rfl ⟨wl_So_189, wi_Sh_renew, ws_Sh_renew, wc_Sh_renew, wn_Sh⟩ ⟨by decide, by decide, by decide +kernel⟩ ⟨Nat.le_of_ble_eq_true rfl, Nat.le_of_ble_eq_true rfl⟩ hl.1 rfl (rest := []) rfl (Nat.le_of_ble_eq_true rfl) ⟨Nat.zero_le _, Nat.zero_le _⟩ d_So_sheet_38 (fun I4 a4 H locs hp4 hM => ?_)
        cases hp4
        refine lv_iconst (v := 1) hx hb d_So_sheet_41 (by decide) ?_
        refine hret _ _ _ _ _ _ _ d_So_sheet_42 hM ?_
        rw [if_pos (by omega), if_neg (by omega)]
        exact ⟨rfl, rfl⟩
      · skip
        refine lv_bipush (v := (-14)) hx hb d_So_sheet_31 (by decide) ?_
        refine hret _ _ _ _ _ _ _ d_So_sheet_33 hM ?_
        rw [if_pos (by omega), if_pos (by omega)]
        exact ⟨rfl, rfl⟩
    · skip
      refine lv_iconst (v := (-1)) hx hb d_So_sheet_25 (by decide) ?_
      refine hret _ _ _ _ _ _ _ d_So_sheet_26 hM ?_
      rw [if_neg (by omega)]
      exact ⟨rfl, rfl⟩
set_option maxHeartbeats 400000 in
set_option maxRecDepth 100000 in
theorem c_So_sheet_n (l : Launch) (D : va_G) (cT : Nat → ClassId) (X : CX) (I : Nat → Int32) (a : Nat → Nat → Int32) (j : Int32) (lane : Int32) (n : Int32)  (hj : ¬ (0 ≤ j.toInt ∧ j.toInt < 4)) : CMi l D cT X y_So_sheet b_So_sheet 5 (some .int) 2 42 [.ref (X.1 0), .int j, .int lane, .int n] I a (fun r u => r = -1 ∧ u = (I, a)) := by
  refine co_enti (own := R_So) (by decide) rfl (Nat.le_of_ble_eq_true rfl) ?_
  intro p e s m args below meth c Q hC hK hM hret ls hl
  have hx := hC.1
  have hb := hC.2.1
  replace hl : lv_has ls 5 [(0, .ref (X.1 0)), (1, .int j), (2, .int lane), (3, .int n)] := hl
  refine lv_aload_n hx hb d_So_sheet_0 rfl (lv_at hl 0 rfl) ?_
  refine lv_iload_n hx hb d_So_sheet_1 rfl (lv_at hl 1 rfl) ?_
  refine rd_callq (np := 1) hC hK hM.1 (cw_he (by omega) (cE_0)) rfl (c_So_sheetNumber_n l D cT X I a j hj) rfl ⟨wl_So_182, wi_So_sheetNumber, ws_So_sheetNumber, wc_So_sheetNumber, wn_So⟩ ⟨by decide, by decide, by decide +kernel⟩ ⟨Nat.le_of_ble_eq_true rfl, Nat.le_of_ble_eq_true rfl⟩ hl.1 rfl (rest := []) rfl (Nat.le_of_ble_eq_true rfl) ⟨Nat.zero_le _, Nat.zero_le _⟩ d_So_sheet_2 (fun rr hrr => ?_)
  subst hrr
  refine lv_astoreN (lv' := [(4, .null), (0, .ref (X.1 0)), (1, .int j), (2, .int lane), (3, .int n)]) hx hb d_So_sheet_5 hl (by decide) rfl (fun ls hl => ?_)
  refine lv_aloadN hx hb d_So_sheet_7 (lv_at hl 0 rfl) ?_
  refine lv_ifnullN (tgt := 25) hx hb d_So_sheet_9 (by decide) ?_
  refine lv_iconst (v := (-1)) hx hb d_So_sheet_25 (by decide) ?_
  exact hret _ _ _ _ _ _ _ d_So_sheet_26 hM (⟨rfl, rfl⟩)
set_option maxHeartbeats 400000 in
set_option maxRecDepth 100000 in
theorem c_So_lay_y (l : Launch) (D : va_G) (cT : Nat → ClassId) (X : CX) (I : Nat → Int32) (a : Nat → Nat → Int32) (j : Nat) (i : Int32) (v : Int32) (sz : Nat) (hsz : I (10 * (10 + 2 * j) + 2) = nI sz) (h64 : sz ≤ 64) (hj : j < 4) : CMi l D cT X y_So_lay b_So_lay 5 (some .int) 2 43 [.ref (X.1 0), .int (nI j), .int i, .int v] I a (fun r u => if I (10 * (10 + 2 * j) + 1) = -1 then r = -11 ∧ u = (I, a) else if 0 ≤ i.toInt ∧ i.toInt < sz then r = 1 ∧ u = (I, va_up a (10 + 2 * j + 1) (upd (a (10 + 2 * j + 1)) i.toInt.toNat (layC (I (10 * (10 + 2 * j) + 1)) v))) else r = -12 ∧ u = (I, a)) := by
  refine co_enti (own := R_So) (by decide) rfl (Nat.le_of_ble_eq_true rfl) ?_
  intro p e s m args below meth c Q hC hK hM hret ls hl
  have hx := hC.1
  have hb := hC.2.1
  replace hl : lv_has ls 5 [(0, .ref (X.1 0)), (1, .int (nI j)), (2, .int i), (3, .int v)] := hl
  refine lv_aload_n hx hb d_So_lay_0 rfl (lv_at hl 0 rfl) ?_
  refine lv_iload_n hx hb d_So_lay_1 rfl (lv_at hl 1 rfl) ?_
  refine rd_callq (np := 1) hC hK hM.1 (cw_he (by omega) (cE_0)) rfl (c_So_sheetNumber_y l D cT X I a j hj) rfl ⟨wl_So_182, wi_So_sheetNumber, ws_So_sheetNumber, wc_So_sheetNumber, wn_So⟩ ⟨by decide, by decide, by decide +kernel⟩ ⟨Nat.le_of_ble_eq_true rfl, Nat.le_of_ble_eq_true rfl⟩ hl.1 rfl (rest := []) rfl (Nat.le_of_ble_eq_true rfl) ⟨Nat.zero_le _, Nat.zero_le _⟩ d_So_lay_2 (fun rr hrr => ?_)
  subst hrr
  refine lv_astore (lv' := [(4, .ref (X.1 (10 + 2 * j))), (0, .ref (X.1 0)), (1, .int (nI j)), (2, .int i), (3, .int v)]) hx hb d_So_lay_5 hl (by decide) rfl (fun ls hl => ?_)
  refine lv_aload hx hb d_So_lay_7 (lv_at hl 0 rfl) ?_
  refine lv_ifnonnull (tgt := 14) hx hb d_So_lay_9 (by decide) ?_
  refine lv_aload hx hb d_So_lay_14 (lv_at hl 0 rfl) ?_
  refine rd_call (np := 0) hC hK hM.1 (cw_he (by omega) (cE_S (by omega))) rfl (c_Sh_isNothing l D cT X I a j (by omega)) rfl ⟨wl_So_193, wi_Sh_isNothing, ws_Sh_isNothing, wc_Sh_isNothing, wn_Sh⟩ ⟨by decide, by decide, by decide +kernel⟩ ⟨Nat.le_of_ble_eq_true rfl, Nat.le_of_ble_eq_true rfl⟩ hl.1 rfl (rest := []) rfl (Nat.le_of_ble_eq_true rfl) ⟨Nat.zero_le _, Nat.zero_le _⟩ d_So_lay_16 (fun rr hrr => ?_)
  subst hrr
  refine bz_eq (tgt := 25) hx hb d_So_lay_19 (by decide) (fun h1 => ?_) (fun h1 => ?_)
  · skip
    refine lv_aload hx hb d_So_lay_25 (lv_at hl 0 rfl) ?_
    refine lv_iload_n hx hb d_So_lay_27 rfl (lv_at hl 3 rfl) ?_
    refine lv_iload_n hx hb d_So_lay_28 rfl (lv_at hl 4 rfl) ?_
    refine co_calli (np := 2) hC hK hM (k := 10 + 2 * j) (by omega) (cE_S (by omega)) rfl (c_Sh_put l D cT X I a j i v sz i.toInt hsz h64 hj (rfl)) rfl ⟨wl_So_197, wi_Sh_put, ws_Sh_put, wc_Sh_put, wn_Sh⟩ ⟨by decide, by decide, by decide +kernel⟩ ⟨Nat.le_of_ble_eq_true rfl, Nat.le_of_ble_eq_true rfl⟩ hl.1 rfl (rest := []) rfl (Nat.le_of_ble_eq_true rfl) ⟨Nat.zero_le _, Nat.zero_le _⟩ d_So_lay_29 (fun rr2 I2 a2 H locs hp2 hM => ?_)
    refine lv_if_eq (tgt := 39) hx hb d_So_lay_32 (by decide) (fun h3 => ?_) (fun h3 => ?_)
    · skip
      refine lv_bipush (v := (-12)) hx hb d_So_lay_39 (by decide) ?_
      refine hret _ _ _ _ _ _ _ d_So_lay_41 hM ?_
      rw [if_neg (by assumption)]
      by_cases z9 : 0 ≤ i.toInt ∧ i.toInt < sz
      · rw [if_pos z9] at hp2 ⊢
        first | (exact ⟨rfl, hp2.2⟩; done) | (exact absurd (hp2.1.symm.trans (by assumption)) (by decide))
      · rw [if_neg z9] at hp2 ⊢
        first | (exact ⟨rfl, hp2.2⟩; done) | (exact absurd hp2.1 (by assumption))
    · skip
      refine lv_iconst (v := 1) hx hb d_So_lay_35 (by decide) ?_
      refine lv_goto (tgt := 41) hx hb d_So_lay_36 (by decide) ?_
      refine hret _ _ _ _ _ _ _ d_So_lay_41 hM ?_
      rw [if_neg (by assumption)]
      by_cases z9 : 0 ≤ i.toInt ∧ i.toInt < sz
      · rw [if_pos z9] at hp2 ⊢
        first | (exact ⟨rfl, hp2.2⟩; done) | (exact absurd (hp2.1.symm.trans (by assumption)) (by decide))
      · rw [if_neg z9] at hp2 ⊢
        first | (exact ⟨rfl, hp2.2⟩; done) | (exact absurd hp2.1 (by assumption))
  · skip
    refine lv_bipush (v := (-11)) hx hb d_So_lay_22 (by decide) ?_
    refine hret _ _ _ _ _ _ _ d_So_lay_24 hM ?_
    rw [if_pos (by assumption)]
    exact ⟨rfl, rfl⟩
set_option maxHeartbeats 400000 in
set_option maxRecDepth 100000 in
theorem c_So_lay_n (l : Launch) (D : va_G) (cT : Nat → ClassId) (X : CX) (I : Nat → Int32) (a : Nat → Nat → Int32) (j : Int32) (i : Int32) (v : Int32)  (hj : ¬ (0 ≤ j.toInt ∧ j.toInt < 4)) : CMi l D cT X y_So_lay b_So_lay 5 (some .int) 2 43 [.ref (X.1 0), .int j, .int i, .int v] I a (fun r u => r = -1 ∧ u = (I, a)) := by
  refine co_enti (own := R_So) (by decide) rfl (Nat.le_of_ble_eq_true rfl) ?_
  intro p e s m args below meth c Q hC hK hM hret ls hl
  have hx := hC.1
  have hb := hC.2.1
  replace hl : lv_has ls 5 [(0, .ref (X.1 0)), (1, .int j), (2, .int i), (3, .int v)] := hl
  refine lv_aload_n hx hb d_So_lay_0 rfl (lv_at hl 0 rfl) ?_
  refine lv_iload_n hx hb d_So_lay_1 rfl (lv_at hl 1 rfl) ?_
  refine rd_callq (np := 1) hC hK hM.1 (cw_he (by omega) (cE_0)) rfl (c_So_sheetNumber_n l D cT X I a j hj) rfl ⟨wl_So_182, wi_So_sheetNumber, ws_So_sheetNumber, wc_So_sheetNumber, wn_So⟩ ⟨by decide, by decide, by decide +kernel⟩ ⟨Nat.le_of_ble_eq_true rfl, Nat.le_of_ble_eq_true rfl⟩ hl.1 rfl (rest := []) rfl (Nat.le_of_ble_eq_true rfl) ⟨Nat.zero_le _, Nat.zero_le _⟩ d_So_lay_2 (fun rr hrr => ?_)
  subst hrr
  refine lv_astoreN (lv' := [(4, .null), (0, .ref (X.1 0)), (1, .int j), (2, .int i), (3, .int v)]) hx hb d_So_lay_5 hl (by decide) rfl (fun ls hl => ?_)
  refine lv_aloadN hx hb d_So_lay_7 (lv_at hl 0 rfl) ?_
  refine lv_ifnonnullN hx hb d_So_lay_9 ?_
  refine lv_iconst (v := (-1)) hx hb d_So_lay_12 (by decide) ?_
  exact hret _ _ _ _ _ _ _ d_So_lay_13 hM (⟨rfl, rfl⟩)
set_option maxHeartbeats 400000 in
set_option maxRecDepth 100000 in
theorem c_So_textsOfLatestBody_y (l : Launch) (D : va_G) (cT : Nat → ClassId) (X : CX) (I : Nat → Int32) (a : Nat → Nat → Int32)  (nb : Nat) (T : Nat → TX) (tl : Nat) (tb : Nat → Nat) (ft : Int32) (la : Nat → Int32) (szz : Nat → Nat) (ce : Nat → Nat → Int32) (hCI : CI X I a nb T tl tb ft la szz ce) (h0 : 0 < nb) : RDi l D cT (cw cT X I a) y_So_textsOfLatestBody b_So_textsOfLatestBody 2 (some .int) 1 21 [.ref (X.1 0)] (fun r => r = nI (T (nb - 1)).1) := by
  refine rd_enti (own := R_So) (by decide) rfl (Nat.le_of_ble_eq_true rfl) ?_
  intro p e s m args below meth c Q hC hK hP hret ls hl
  have hx := hC.1
  have hb := hC.2.1
  replace hl : lv_has ls 2 [(0, .ref (X.1 0))] := hl
  refine lv_aload_n hx hb d_So_textsOfLatestBody_0 rfl (lv_at hl 0 rfl) ?_
  refine lv_aload_n hx hb d_So_textsOfLatestBody_1 rfl (lv_at hl 0 rfl) ?_
  refine rd_get hC in_So hK hP 0 (cw_he (by omega) (cE_0)) rfl 3 (by decide) wf_So_31 rfl (v := .int (nI nb)) (congrArg (fun z : Int32 => some (Value.int z)) (hCI.1.1)) d_So_textsOfLatestBody_2 ?_
  refine lv_iconst (v := 1) hx hb d_So_textsOfLatestBody_5 (by decide) ?_
  refine lv_isub hx hb d_So_textsOfLatestBody_6 ?_
  refine topi_eq (iI_sub (↑nb : Int) 1) ?_
  refine topi_eq (show iI ((↑nb : Int) - 1) = nI (nb - 1) by rw [nI_iI]; congr 1; omega) ?_
  have hbn9 : nb - 1 < X.2.2.2.1 := by rw [hCI.1.2.1]; omega
  have ht9 := (hCI.1.2.2.2.2 (nb - 1) (by omega)).2.2.2.1.1
  refine rd_callq (np := 1) hC hK hP (cw_he (by omega) (cE_0)) rfl (c_So_bodyNumber_y l D cT X I a (nb - 1) nb (by omega) (hCI.1.1) hCI.1.2.2.1 hCI.1.2.2.2.1) rfl ⟨wl_So_79, wi_So_bodyNumber, ws_So_bodyNumber, wc_So_bodyNumber, wn_So⟩ ⟨by decide, by decide, by decide +kernel⟩ ⟨Nat.le_of_ble_eq_true rfl, Nat.le_of_ble_eq_true rfl⟩ hl.1 rfl (rest := []) rfl (Nat.le_of_ble_eq_true rfl) ⟨Nat.zero_le _, Nat.zero_le _⟩ d_So_textsOfLatestBody_7 (fun rr hrr => ?_)
  subst hrr
  refine lv_astore_n (lv' := [(1, .ref (X.1 (18 + 3 * (nb - 1)))), (0, .ref (X.1 0))]) hx hb d_So_textsOfLatestBody_10 rfl hl (by decide) rfl (fun ls hl => ?_)
  refine lv_aload_n hx hb d_So_textsOfLatestBody_11 rfl (lv_at hl 0 rfl) ?_
  refine lv_ifnonnull (tgt := 20) hx hb d_So_textsOfLatestBody_12 (by decide) ?_
  refine lv_aload_n hx hb d_So_textsOfLatestBody_20 rfl (lv_at hl 0 rfl) ?_
  refine rd_getN hC in_Bo hK hP (18 + 3 * (nb - 1)) (cw_he (by omega) (cE_B (nb - 1))) rfl 1 (by decide) wF_So_218 rfl (v := .int (I (10 * (18 + 3 * (nb - 1)) + 1))) (rfl) d_So_textsOfLatestBody_21 ?_
  exact hret _ _ _ d_So_textsOfLatestBody_24 (ht9)
set_option maxHeartbeats 400000 in
set_option maxRecDepth 100000 in
theorem c_So_textsOfLatestBody_n (l : Launch) (D : va_G) (cT : Nat → ClassId) (X : CX) (I : Nat → Int32) (a : Nat → Nat → Int32)  (nb : Nat) (T : Nat → TX) (tl : Nat) (tb : Nat → Nat) (ft : Int32) (la : Nat → Int32) (szz : Nat → Nat) (ce : Nat → Nat → Int32) (hCI : CI X I a nb T tl tb ft la szz ce) (h0 : nb = 0) : RDi l D cT (cw cT X I a) y_So_textsOfLatestBody b_So_textsOfLatestBody 2 (some .int) 1 21 [.ref (X.1 0)] (fun r => r = -4) := by
  refine rd_enti (own := R_So) (by decide) rfl (Nat.le_of_ble_eq_true rfl) ?_
  intro p e s m args below meth c Q hC hK hP hret ls hl
  have hx := hC.1
  have hb := hC.2.1
  replace hl : lv_has ls 2 [(0, .ref (X.1 0))] := hl
  refine lv_aload_n hx hb d_So_textsOfLatestBody_0 rfl (lv_at hl 0 rfl) ?_
  refine lv_aload_n hx hb d_So_textsOfLatestBody_1 rfl (lv_at hl 0 rfl) ?_
  refine rd_get hC in_So hK hP 0 (cw_he (by omega) (cE_0)) rfl 3 (by decide) wf_So_31 rfl (v := .int (nI nb)) (congrArg (fun z : Int32 => some (Value.int z)) (hCI.1.1)) d_So_textsOfLatestBody_2 ?_
  refine lv_iconst (v := 1) hx hb d_So_textsOfLatestBody_5 (by decide) ?_
  refine lv_isub hx hb d_So_textsOfLatestBody_6 ?_
  refine topi_eq (iI_sub (↑nb : Int) 1) ?_
  have hbb : ¬ (0 ≤ (iI ((↑nb : Int) - 1)).toInt ∧ (iI ((↑nb : Int) - 1)).toInt < nb) := by subst h0; decide
  refine rd_callq (np := 1) hC hK hP (cw_he (by omega) (cE_0)) rfl (c_So_bodyNumber_n l D cT X I a (iI ((↑nb : Int) - 1)) nb hbb (hCI.1.1) hCI.1.2.2.1) rfl ⟨wl_So_79, wi_So_bodyNumber, ws_So_bodyNumber, wc_So_bodyNumber, wn_So⟩ ⟨by decide, by decide, by decide +kernel⟩ ⟨Nat.le_of_ble_eq_true rfl, Nat.le_of_ble_eq_true rfl⟩ hl.1 rfl (rest := []) rfl (Nat.le_of_ble_eq_true rfl) ⟨Nat.zero_le _, Nat.zero_le _⟩ d_So_textsOfLatestBody_7 (fun rr hrr => ?_)
  subst hrr
  refine lv_astore_nN (lv' := [(1, .null), (0, .ref (X.1 0))]) hx hb d_So_textsOfLatestBody_10 rfl hl (by decide) rfl (fun ls hl => ?_)
  refine lv_aload_nN hx hb d_So_textsOfLatestBody_11 rfl (lv_at hl 0 rfl) ?_
  refine lv_ifnonnullN hx hb d_So_textsOfLatestBody_12 ?_
  refine lv_bipush (v := (-4)) hx hb d_So_textsOfLatestBody_15 (by decide) ?_
  refine lv_goto (tgt := 24) hx hb d_So_textsOfLatestBody_17 (by decide) ?_
  exact hret _ _ _ d_So_textsOfLatestBody_24 (rfl)
set_option maxHeartbeats 400000 in
set_option maxRecDepth 100000 in
theorem c_So_cellsOfFirstSheet (l : Launch) (D : va_G) (cT : Nat → ClassId) (X : CX) (I : Nat → Int32) (a : Nat → Nat → Int32)  (nb : Nat) (T : Nat → TX) (tl : Nat) (tb : Nat → Nat) (ft : Int32) (la : Nat → Int32) (szz : Nat → Nat) (ce : Nat → Nat → Int32) (hCI : CI X I a nb T tl tb ft la szz ce) : RDi l D cT (cw cT X I a) y_So_cellsOfFirstSheet b_So_cellsOfFirstSheet 2 (some .int) 1 21 [.ref (X.1 0)] (fun r => r = if I 101 = -1 then -4 else I 102) := by
  refine rd_enti (own := R_So) (by decide) rfl (Nat.le_of_ble_eq_true rfl) ?_
  intro p e s m args below meth c Q hC hK hP hret ls hl
  have hx := hC.1
  have hb := hC.2.1
  replace hl : lv_has ls 2 [(0, .ref (X.1 0))] := hl
  refine lv_aload_n hx hb d_So_cellsOfFirstSheet_0 rfl (lv_at hl 0 rfl) ?_
  refine lv_iconst (v := 0) hx hb d_So_cellsOfFirstSheet_1 (by decide) ?_
  refine rd_callq (np := 1) hC hK hP (cw_he (by omega) (cE_0)) rfl (c_So_sheetNumber_y l D cT X I a 0 (by decide)) rfl ⟨wl_So_182, wi_So_sheetNumber, ws_So_sheetNumber, wc_So_sheetNumber, wn_So⟩ ⟨by decide, by decide, by decide +kernel⟩ ⟨Nat.le_of_ble_eq_true rfl, Nat.le_of_ble_eq_true rfl⟩ hl.1 rfl (rest := []) rfl (Nat.le_of_ble_eq_true rfl) ⟨Nat.zero_le _, Nat.zero_le _⟩ d_So_cellsOfFirstSheet_2 (fun rr hrr => ?_)
  subst hrr
  refine lv_astore_n (lv' := [(1, .ref (X.1 (10 + 2 * 0))), (0, .ref (X.1 0))]) hx hb d_So_cellsOfFirstSheet_5 rfl hl (by decide) rfl (fun ls hl => ?_)
  refine lv_aload_n hx hb d_So_cellsOfFirstSheet_6 rfl (lv_at hl 0 rfl) ?_
  refine lv_ifnull hx hb d_So_cellsOfFirstSheet_7 ?_
  refine lv_aload_n hx hb d_So_cellsOfFirstSheet_10 rfl (lv_at hl 0 rfl) ?_
  refine rd_call (np := 0) hC hK hP (cw_he (by omega) (cE_S (by omega))) rfl (c_Sh_isNothing l D cT X I a 0 (by decide)) rfl ⟨wl_So_193, wi_Sh_isNothing, ws_Sh_isNothing, wc_Sh_isNothing, wn_Sh⟩ ⟨by decide, by decide, by decide +kernel⟩ ⟨Nat.le_of_ble_eq_true rfl, Nat.le_of_ble_eq_true rfl⟩ hl.1 rfl (rest := []) rfl (Nat.le_of_ble_eq_true rfl) ⟨Nat.zero_le _, Nat.zero_le _⟩ d_So_cellsOfFirstSheet_11 (fun rr hrr => ?_)
  subst hrr
  refine bz_eq (tgt := 22) hx hb d_So_cellsOfFirstSheet_14 (by decide) (fun h1 => ?_) (fun h1 => ?_)
  · skip
    refine lv_aload_n hx hb d_So_cellsOfFirstSheet_22 rfl (lv_at hl 0 rfl) ?_
    refine rd_getN hC in_Sh hK hP (10 + 2 * 0) (cw_he (by omega) (cE_S (by omega))) rfl 2 (by decide) wF_So_216 rfl (v := .int (I (10 * (10 + 2 * 0) + 2))) (rfl) d_So_cellsOfFirstSheet_23 ?_
    exact hret _ _ _ d_So_cellsOfFirstSheet_26 (by rw [if_neg (by assumption)])
  · skip
    refine lv_bipush (v := (-4)) hx hb d_So_cellsOfFirstSheet_17 (by decide) ?_
    refine lv_goto (tgt := 26) hx hb d_So_cellsOfFirstSheet_19 (by decide) ?_
    exact hret _ _ _ d_So_cellsOfFirstSheet_26 (by rw [if_pos (by assumption)])
