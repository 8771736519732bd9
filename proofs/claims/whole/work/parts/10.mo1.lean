/-! the reference: its small methods -/
theorem is_eq {x b : Int32} {nb : Nat} (hnb : x = nI nb) (h8 : nb ≤ 8) : (0 ≤ b.toInt ∧ b.toInt ≤ (x - 1).toInt) ↔ (0 ≤ b.toInt ∧ b.toInt < nb) := by
  have e : (x - 1).toInt = (nb : Int) - 1 := by rw [hnb, nI_iI, iI_lit, iI_sub, iI_toInt (by omega) (by omega)]
  omega
set_option maxHeartbeats 400000 in
set_option maxRecDepth 100000 in
theorem c_Mo_in (l : Launch) (v : Int64) (lo : Int64) (hi : Int64) (v' lo' hi' : Int) (hv : v.toInt = v') (hlo : lo.toInt = lo') (hhi : hi.toInt = hi') : SMi l y_Mo_in b_Mo_in 6 (some .boolean) 0 0 [.long v, .long lo, .long hi] (fun r => r = bI (lo' ≤ v' ∧ v' ≤ hi')) := by
  refine st_entz (own := R_Mo) (by decide) rfl (Nat.le_of_ble_eq_true rfl) ?_
  intro p e s m args below meth c Q hC hret ls hl
  have hx := hC.1
  have hb := hC.2.1
  replace hl : lv_has ls 6 [(0, .long v), (2, .long lo), (4, .long hi)] := hl
  refine lv_lload_n hx hb d_Mo_in_0 rfl (lv_at hl 0 rfl) ?_
  refine lv_lload_n hx hb d_Mo_in_1 rfl (lv_at hl 1 rfl) ?_
  refine lc_lt (tgt := 17) hx hb d_Mo_in_2 d_Mo_in_3 (by decide) (fun h1 => ?_) (fun h1 => ?_)
  · skip
    refine lv_iconst (v := 0) hx hb d_Mo_in_17 (by decide) ?_
    exact hret _ _ _ d_Mo_in_18 (by first | exact Or.inl rfl | exact Or.inr rfl | assumption) (by simp only [Int64.lt_iff_toInt_lt, hv, hlo, hhi] at h1; exact (bI_f (by omega)).symm)
  · skip
    refine lv_lload_n hx hb d_Mo_in_6 rfl (lv_at hl 0 rfl) ?_
    refine lv_lload hx hb d_Mo_in_7 (lv_at hl 2 rfl) ?_
    refine lc_gt (tgt := 17) hx hb d_Mo_in_9 d_Mo_in_10 (by decide) (fun h2 => ?_) (fun h2 => ?_)
    · skip
      refine lv_iconst (v := 0) hx hb d_Mo_in_17 (by decide) ?_
      exact hret _ _ _ d_Mo_in_18 (by first | exact Or.inl rfl | exact Or.inr rfl | assumption) (by simp only [Int64.lt_iff_toInt_lt, hv, hlo, hhi] at h1 h2; exact (bI_f (by omega)).symm)
    · skip
      refine lv_iconst (v := 1) hx hb d_Mo_in_13 (by decide) ?_
      refine lv_goto (tgt := 18) hx hb d_Mo_in_14 (by decide) ?_
      exact hret _ _ _ d_Mo_in_18 (by first | exact Or.inl rfl | exact Or.inr rfl | assumption) (by simp only [Int64.lt_iff_toInt_lt, hv, hlo, hhi] at h1 h2; exact (bI_t (by omega)).symm)
set_option maxHeartbeats 400000 in
set_option maxRecDepth 100000 in
theorem c_Mo_numbersOf (l : Launch) (k : Int32)   : SMi l y_Mo_numbersOf b_Mo_numbersOf 1 (some .int) 0 0 [.int k] (fun r => r = if k = 0 ∨ k = 2 then 4 else if k = 1 then 6 else if k = 6 then 3 else if k = 9 then 1 else 0) := by
  refine st_enti (own := R_Mo) (by decide) rfl (Nat.le_of_ble_eq_true rfl) ?_
  intro p e s m args below meth c Q hC hret ls hl
  have hx := hC.1
  have hb := hC.2.1
  replace hl : lv_has ls 1 [(0, .int k)] := hl
  refine lv_iload_n hx hb d_Mo_numbersOf_0 rfl (lv_at hl 0 rfl) ?_
  refine lv_if_eq (tgt := 9) hx hb d_Mo_numbersOf_1 (by decide) (fun h1 => ?_) (fun h1 => ?_)
  · skip
    refine lv_iconst (v := 4) hx hb d_Mo_numbersOf_9 (by decide) ?_
    refine lv_goto (tgt := 44) hx hb d_Mo_numbersOf_10 (by decide) ?_
    exact hret _ _ _ d_Mo_numbersOf_44 (by simp [h1])
  · skip
    refine lv_iload_n hx hb d_Mo_numbersOf_4 rfl (lv_at hl 0 rfl) ?_
    refine lv_iconst (v := 2) hx hb d_Mo_numbersOf_5 (by decide) ?_
    refine lv_icmp_ne (tgt := 13) hx hb d_Mo_numbersOf_6 (by decide) (fun h2 => ?_) (fun h2 => ?_)
    · skip
      refine lv_iload_n hx hb d_Mo_numbersOf_13 rfl (lv_at hl 0 rfl) ?_
      refine lv_iconst (v := 1) hx hb d_Mo_numbersOf_14 (by decide) ?_
      refine lv_icmp_ne (tgt := 23) hx hb d_Mo_numbersOf_15 (by decide) (fun h3 => ?_) (fun h3 => ?_)
      · skip
        refine lv_iload_n hx hb d_Mo_numbersOf_23 rfl (lv_at hl 0 rfl) ?_
        refine lv_bipush (v := 6) hx hb d_Mo_numbersOf_24 (by decide) ?_
        refine lv_icmp_ne (tgt := 33) hx hb d_Mo_numbersOf_26 (by decide) (fun h4 => ?_) (fun h4 => ?_)
        · skip
          refine lv_iload_n hx hb d_Mo_numbersOf_33 rfl (lv_at hl 0 rfl) ?_
          refine lv_bipush (v := 9) hx hb d_Mo_numbersOf_34 (by decide) ?_
          refine lv_icmp_ne (tgt := 43) hx hb d_Mo_numbersOf_36 (by decide) (fun h5 => ?_) (fun h5 => ?_)
          · skip
            refine lv_iconst (v := 0) hx hb d_Mo_numbersOf_43 (by decide) ?_
            exact hret _ _ _ d_Mo_numbersOf_44 (by simp [h1, h2, h3, h4, h5])
          · skip
            refine lv_iconst (v := 1) hx hb d_Mo_numbersOf_39 (by decide) ?_
            refine lv_goto (tgt := 44) hx hb d_Mo_numbersOf_40 (by decide) ?_
            exact hret _ _ _ d_Mo_numbersOf_44 (by simp [h1, h2, h3, h4, h5])
        · skip
          refine lv_iconst (v := 3) hx hb d_Mo_numbersOf_29 (by decide) ?_
          refine lv_goto (tgt := 44) hx hb d_Mo_numbersOf_30 (by decide) ?_
          exact hret _ _ _ d_Mo_numbersOf_44 (by simp [h1, h2, h3, h4])
      · skip
        refine lv_bipush (v := 6) hx hb d_Mo_numbersOf_18 (by decide) ?_
        refine lv_goto (tgt := 44) hx hb d_Mo_numbersOf_20 (by decide) ?_
        exact hret _ _ _ d_Mo_numbersOf_44 (by simp [h1, h2, h3])
    · skip
      refine lv_iconst (v := 4) hx hb d_Mo_numbersOf_9 (by decide) ?_
      refine lv_goto (tgt := 44) hx hb d_Mo_numbersOf_10 (by decide) ?_
      exact hret _ _ _ d_Mo_numbersOf_44 (by simp [h1, h2])
set_option maxHeartbeats 400000 in
set_option maxRecDepth 100000 in
theorem c_Mo_textsOf (l : Launch) (k : Int32)   : SMi l y_Mo_textsOf b_Mo_textsOf 1 (some .int) 0 0 [.int k] (fun r => r = if k < 3 then 0 else if k < 6 then 2 else 1) := by
  refine st_enti (own := R_Mo) (by decide) rfl (Nat.le_of_ble_eq_true rfl) ?_
  intro p e s m args below meth c Q hC hret ls hl
  have hx := hC.1
  have hb := hC.2.1
  replace hl : lv_has ls 1 [(0, .int k)] := hl
  refine lv_iload_n hx hb d_Mo_textsOf_0 rfl (lv_at hl 0 rfl) ?_
  refine lv_iconst (v := 3) hx hb d_Mo_textsOf_1 (by decide) ?_
  refine ic_ge (tgt := 9) hx hb d_Mo_textsOf_2 (by decide) (fun h1 => ?_) (fun h1 => ?_)
  · skip
    refine lv_iload_n hx hb d_Mo_textsOf_9 rfl (lv_at hl 0 rfl) ?_
    refine lv_bipush (v := 6) hx hb d_Mo_textsOf_10 (by decide) ?_
    refine ic_ge (tgt := 19) hx hb d_Mo_textsOf_12 (by decide) (fun h2 => ?_) (fun h2 => ?_)
    · skip
      refine lv_iconst (v := 1) hx hb d_Mo_textsOf_19 (by decide) ?_
      exact hret _ _ _ d_Mo_textsOf_20 (by simp [h1, h2])
    · skip
      refine lv_iconst (v := 2) hx hb d_Mo_textsOf_15 (by decide) ?_
      refine lv_goto (tgt := 20) hx hb d_Mo_textsOf_16 (by decide) ?_
      exact hret _ _ _ d_Mo_textsOf_20 (by simp [h1, h2])
  · skip
    refine lv_iconst (v := 0) hx hb d_Mo_textsOf_5 (by decide) ?_
    refine lv_goto (tgt := 20) hx hb d_Mo_textsOf_6 (by decide) ?_
    exact hret _ _ _ d_Mo_textsOf_20 (by simp [h1])
set_option maxHeartbeats 400000 in
set_option maxRecDepth 100000 in
theorem c_Mo_ruleOf (l : Launch) (x : Int64)   : SMi l y_Mo_ruleOf b_Mo_ruleOf 2 (some .int) 0 0 [.long x] (fun r => r = if x = 1650551916 then 0 else if x = 6451064 then 1 else if x = 482854661733 then 2 else if x = 28530 then 3 else if x = 6385252 then 4 else if x = 1818588019 then 5 else if x = 1836021349 then 6 else if x = 1953854062 then 7 else if x = 1718380912 then 8 else if x = 7497072 then 9 else -4) := by
  refine st_enti (own := R_Mo) (by decide) rfl (Nat.le_of_ble_eq_true rfl) ?_
  intro p e s m args below meth c Q hC hret ls hl
  have hx := hC.1
  have hb := hC.2.1
  replace hl : lv_has ls 2 [(0, .long x)] := hl
  refine lv_lload_n hx hb d_Mo_ruleOf_0 rfl (lv_at hl 0 rfl) ?_
  refine lv_ldc2 (v := 1650551916) hx hb hC.2.2.2.1 (hC.2.2.2.2 _ wx_Mo_104) d_Mo_ruleOf_1 ?_
  refine lc_ne (tgt := 10) hx hb d_Mo_ruleOf_4 d_Mo_ruleOf_5 (by decide) (fun h1 => ?_) (fun h1 => ?_)
  · skip
    refine lv_lload_n hx hb d_Mo_ruleOf_10 rfl (lv_at hl 0 rfl) ?_
    refine lv_ldc2 (v := 6451064) hx hb hC.2.2.2.1 (hC.2.2.2.2 _ wx_Mo_106) d_Mo_ruleOf_11 ?_
    refine lc_ne (tgt := 20) hx hb d_Mo_ruleOf_14 d_Mo_ruleOf_15 (by decide) (fun h2 => ?_) (fun h2 => ?_)
    · skip
      refine lv_lload_n hx hb d_Mo_ruleOf_20 rfl (lv_at hl 0 rfl) ?_
      refine lv_ldc2 (v := 482854661733) hx hb hC.2.2.2.1 (hC.2.2.2.2 _ wx_Mo_108) d_Mo_ruleOf_21 ?_
      refine lc_ne (tgt := 30) hx hb d_Mo_ruleOf_24 d_Mo_ruleOf_25 (by decide) (fun h3 => ?_) (fun h3 => ?_)
      · skip
        refine lv_lload_n hx hb d_Mo_ruleOf_30 rfl (lv_at hl 0 rfl) ?_
        refine lv_ldc2 (v := 28530) hx hb hC.2.2.2.1 (hC.2.2.2.2 _ wx_Mo_110) d_Mo_ruleOf_31 ?_
        refine lc_ne (tgt := 40) hx hb d_Mo_ruleOf_34 d_Mo_ruleOf_35 (by decide) (fun h4 => ?_) (fun h4 => ?_)
        · skip
          refine lv_lload_n hx hb d_Mo_ruleOf_40 rfl (lv_at hl 0 rfl) ?_
          refine lv_ldc2 (v := 6385252) hx hb hC.2.2.2.1 (hC.2.2.2.2 _ wx_Mo_112) d_Mo_ruleOf_41 ?_
          refine lc_ne (tgt := 50) hx hb d_Mo_ruleOf_44 d_Mo_ruleOf_45 (by decide) (fun h5 => ?_) (fun h5 => ?_)
          · skip
            refine lv_lload_n hx hb d_Mo_ruleOf_50 rfl (lv_at hl 0 rfl) ?_
            refine lv_ldc2 (v := 1818588019) hx hb hC.2.2.2.1 (hC.2.2.2.2 _ wx_Mo_114) d_Mo_ruleOf_51 ?_
            refine lc_ne (tgt := 60) hx hb d_Mo_ruleOf_54 d_Mo_ruleOf_55 (by decide) (fun h6 => ?_) (fun h6 => ?_)
            · skip
              refine lv_lload_n hx hb d_Mo_ruleOf_60 rfl (lv_at hl 0 rfl) ?_
              refine lv_ldc2 (v := 1836021349) hx hb hC.2.2.2.1 (hC.2.2.2.2 _ wx_Mo_116) d_Mo_ruleOf_61 ?_
              refine lc_ne (tgt := 71) hx hb d_Mo_ruleOf_64 d_Mo_ruleOf_65 (by decide) (fun h7 => ?_) (fun h7 => ?_)
              · skip
                refine lv_lload_n hx hb d_Mo_ruleOf_71 rfl (lv_at hl 0 rfl) ?_
                refine lv_ldc2 (v := 1953854062) hx hb hC.2.2.2.1 (hC.2.2.2.2 _ wx_Mo_118) d_Mo_ruleOf_72 ?_
                refine lc_ne (tgt := 82) hx hb d_Mo_ruleOf_75 d_Mo_ruleOf_76 (by decide) (fun h8 => ?_) (fun h8 => ?_)
                · skip
                  refine lv_lload_n hx hb d_Mo_ruleOf_82 rfl (lv_at hl 0 rfl) ?_
                  refine lv_ldc2 (v := 1718380912) hx hb hC.2.2.2.1 (hC.2.2.2.2 _ wx_Mo_120) d_Mo_ruleOf_83 ?_
                  refine lc_ne (tgt := 93) hx hb d_Mo_ruleOf_86 d_Mo_ruleOf_87 (by decide) (fun h9 => ?_) (fun h9 => ?_)
                  · skip
                    refine lv_lload_n hx hb d_Mo_ruleOf_93 rfl (lv_at hl 0 rfl) ?_
                    refine lv_ldc2 (v := 7497072) hx hb hC.2.2.2.1 (hC.2.2.2.2 _ wx_Mo_122) d_Mo_ruleOf_94 ?_
                    refine lc_ne (tgt := 106) hx hb d_Mo_ruleOf_97 d_Mo_ruleOf_98 (by decide) (fun h10 => ?_) (fun h10 => ?_)
                    · skip
                      refine lv_bipush (v := (-4)) hx hb d_Mo_ruleOf_106 (by decide) ?_
                      exact hret _ _ _ d_Mo_ruleOf_108 (by simp [h1, h2, h3, h4, h5, h6, h7, h8, h9, h10])
                    · skip
                      refine lv_bipush (v := 9) hx hb d_Mo_ruleOf_101 (by decide) ?_
                      refine lv_goto (tgt := 108) hx hb d_Mo_ruleOf_103 (by decide) ?_
                      exact hret _ _ _ d_Mo_ruleOf_108 (by simp [h1, h2, h3, h4, h5, h6, h7, h8, h9, h10])
                  · skip
                    refine lv_bipush (v := 8) hx hb d_Mo_ruleOf_90 (by decide) ?_
                    exact hret _ _ _ d_Mo_ruleOf_92 (by simp [h1, h2, h3, h4, h5, h6, h7, h8, h9])
                · skip
                  refine lv_bipush (v := 7) hx hb d_Mo_ruleOf_79 (by decide) ?_
                  exact hret _ _ _ d_Mo_ruleOf_81 (by simp [h1, h2, h3, h4, h5, h6, h7, h8])
              · skip
                refine lv_bipush (v := 6) hx hb d_Mo_ruleOf_68 (by decide) ?_
                exact hret _ _ _ d_Mo_ruleOf_70 (by simp [h1, h2, h3, h4, h5, h6, h7])
            · skip
              refine lv_iconst (v := 5) hx hb d_Mo_ruleOf_58 (by decide) ?_
              exact hret _ _ _ d_Mo_ruleOf_59 (by simp [h1, h2, h3, h4, h5, h6])
          · skip
            refine lv_iconst (v := 4) hx hb d_Mo_ruleOf_48 (by decide) ?_
            exact hret _ _ _ d_Mo_ruleOf_49 (by simp [h1, h2, h3, h4, h5])
        · skip
          refine lv_iconst (v := 3) hx hb d_Mo_ruleOf_38 (by decide) ?_
          exact hret _ _ _ d_Mo_ruleOf_39 (by simp [h1, h2, h3, h4])
      · skip
        refine lv_iconst (v := 2) hx hb d_Mo_ruleOf_28 (by decide) ?_
        exact hret _ _ _ d_Mo_ruleOf_29 (by simp [h1, h2, h3])
    · skip
      refine lv_iconst (v := 1) hx hb d_Mo_ruleOf_18 (by decide) ?_
      exact hret _ _ _ d_Mo_ruleOf_19 (by simp [h1, h2])
  · skip
    refine lv_iconst (v := 0) hx hb d_Mo_ruleOf_8 (by decide) ?_
    exact hret _ _ _ d_Mo_ruleOf_9 (by simp [h1])
set_option maxHeartbeats 400000 in
set_option maxRecDepth 100000 in
theorem c_Mo_isPoint (l : Launch) (x : Int32) (y : Int32) (z : Int32) (x' y' z' : Int) (hx0 : x.toInt = x') (hy0 : y.toInt = y') (hz0 : z.toInt = z') : SMi l y_Mo_isPoint b_Mo_isPoint 3 (some .boolean) 1 25 [.int x, .int y, .int z] (fun r => r = bI (-7 ≤ x' ∧ x' ≤ 7 ∧ -7 ≤ y' ∧ y' ≤ 7 ∧ -7 ≤ z' ∧ z' ≤ 7)) := by
  refine st_entz (own := R_Mo) (by decide) rfl (Nat.le_of_ble_eq_true rfl) ?_
  intro p e s m args below meth c Q hC hret ls hl
  have hx := hC.1
  have hb := hC.2.1
  replace hl : lv_has ls 3 [(0, .int x), (1, .int y), (2, .int z)] := hl
  refine lv_iload_n hx hb d_Mo_isPoint_0 rfl (lv_at hl 0 rfl) ?_
  refine lv_i2l (v := iL x.toInt) hx hb d_Mo_isPoint_1 (x_l _) ?_
  refine lv_ldc2 (v := (-7)) hx hb hC.2.2.2.1 (hC.2.2.2.2 _ wx_Mo_217) d_Mo_isPoint_2 ?_
  refine lv_ldc2 (v := 7) hx hb hC.2.2.2.1 (hC.2.2.2.2 _ wx_Mo_219) d_Mo_isPoint_5 ?_
  refine st_calli (np := 3) hC (c_Mo_in l (iL (x.toInt)) (-7) 7 x.toInt (-7) 7 (iL_tx x) rfl rfl) ⟨wl_Mo_91, wt_Mo_in, wc_Mo_in, wn_Mo⟩ ⟨by decide, by decide, by decide +kernel⟩ ⟨Nat.le_of_ble_eq_true rfl, Nat.le_of_ble_eq_true rfl⟩ hl.1 rfl (rest := []) rfl (Nat.le_of_ble_eq_true rfl) ⟨Nat.zero_le _, Nat.zero_le _⟩ d_Mo_isPoint_8 (fun rr hrr => ?_)
  subst hrr
  refine bz_eq (tgt := 46) hx hb d_Mo_isPoint_11 (by decide) (fun h1 => ?_) (fun h1 => ?_)
  · skip
    refine lv_iconst (v := 0) hx hb d_Mo_isPoint_46 (by decide) ?_
    exact hret _ _ _ d_Mo_isPoint_47 (by first | exact Or.inl rfl | exact Or.inr rfl | assumption) ((bI_f (by omega)).symm)
  · skip
    refine lv_iload_n hx hb d_Mo_isPoint_14 rfl (lv_at hl 1 rfl) ?_
    refine lv_i2l (v := iL y.toInt) hx hb d_Mo_isPoint_15 (x_l _) ?_
    refine lv_ldc2 (v := (-7)) hx hb hC.2.2.2.1 (hC.2.2.2.2 _ wx_Mo_217) d_Mo_isPoint_16 ?_
    refine lv_ldc2 (v := 7) hx hb hC.2.2.2.1 (hC.2.2.2.2 _ wx_Mo_219) d_Mo_isPoint_19 ?_
    refine st_calli (np := 3) hC (c_Mo_in l (iL (y.toInt)) (-7) 7 y.toInt (-7) 7 (iL_tx y) rfl rfl) ⟨wl_Mo_91, wt_Mo_in, wc_Mo_in, wn_Mo⟩ ⟨by decide, by decide, by decide +kernel⟩ ⟨Nat.le_of_ble_eq_true rfl, Nat.le_of_ble_eq_true rfl⟩ hl.1 rfl (rest := []) rfl (Nat.le_of_ble_eq_true rfl) ⟨Nat.zero_le _, Nat.zero_le _⟩ d_Mo_isPoint_22 (fun rr hrr => ?_)
    subst hrr
    refine bz_eq (tgt := 46) hx hb d_Mo_isPoint_25 (by decide) (fun h2 => ?_) (fun h2 => ?_)
    · skip
      refine lv_iconst (v := 0) hx hb d_Mo_isPoint_46 (by decide) ?_
      exact hret _ _ _ d_Mo_isPoint_47 (by first | exact Or.inl rfl | exact Or.inr rfl | assumption) ((bI_f (by omega)).symm)
    · skip
      refine lv_iload_n hx hb d_Mo_isPoint_28 rfl (lv_at hl 2 rfl) ?_
      refine lv_i2l (v := iL z.toInt) hx hb d_Mo_isPoint_29 (x_l _) ?_
      refine lv_ldc2 (v := (-7)) hx hb hC.2.2.2.1 (hC.2.2.2.2 _ wx_Mo_217) d_Mo_isPoint_30 ?_
      refine lv_ldc2 (v := 7) hx hb hC.2.2.2.1 (hC.2.2.2.2 _ wx_Mo_219) d_Mo_isPoint_33 ?_
      refine st_calli (np := 3) hC (c_Mo_in l (iL (z.toInt)) (-7) 7 z.toInt (-7) 7 (iL_tx z) rfl rfl) ⟨wl_Mo_91, wt_Mo_in, wc_Mo_in, wn_Mo⟩ ⟨by decide, by decide, by decide +kernel⟩ ⟨Nat.le_of_ble_eq_true rfl, Nat.le_of_ble_eq_true rfl⟩ hl.1 rfl (rest := []) rfl (Nat.le_of_ble_eq_true rfl) ⟨Nat.zero_le _, Nat.zero_le _⟩ d_Mo_isPoint_36 (fun rr hrr => ?_)
      subst hrr
      refine bz_eq (tgt := 46) hx hb d_Mo_isPoint_39 (by decide) (fun h3 => ?_) (fun h3 => ?_)
      · skip
        refine lv_iconst (v := 0) hx hb d_Mo_isPoint_46 (by decide) ?_
        exact hret _ _ _ d_Mo_isPoint_47 (by first | exact Or.inl rfl | exact Or.inr rfl | assumption) ((bI_f (by omega)).symm)
      · skip
        refine lv_iconst (v := 1) hx hb d_Mo_isPoint_42 (by decide) ?_
        refine lv_goto (tgt := 47) hx hb d_Mo_isPoint_43 (by decide) ?_
        exact hret _ _ _ d_Mo_isPoint_47 (by first | exact Or.inl rfl | exact Or.inr rfl | assumption) ((bI_t (by omega)).symm)
set_option maxHeartbeats 400000 in
set_option maxRecDepth 100000 in
theorem c_Mo_indexOf (l : Launch) (x : Int) (y : Int) (z : Int)   : SMi l y_Mo_indexOf b_Mo_indexOf 3 (some .int) 0 0 [.int (iI x), .int (iI y), .int (iI z)] (fun r => r = iI (15 * (15 * (z + 7) + y + 7) + x + 7)) := by
  refine st_enti (own := R_Mo) (by decide) rfl (Nat.le_of_ble_eq_true rfl) ?_
  intro p e s m args below meth c Q hC hret ls hl
  have hx := hC.1
  have hb := hC.2.1
  replace hl : lv_has ls 3 [(0, .int (iI x)), (1, .int (iI y)), (2, .int (iI z))] := hl
  refine lv_bipush (v := 15) hx hb d_Mo_indexOf_0 (by decide) ?_
  refine lv_bipush (v := 15) hx hb d_Mo_indexOf_2 (by decide) ?_
  refine lv_iload_n hx hb d_Mo_indexOf_4 rfl (lv_at hl 2 rfl) ?_
  refine lv_bipush (v := 7) hx hb d_Mo_indexOf_5 (by decide) ?_
  refine lv_iadd hx hb d_Mo_indexOf_7 ?_
  refine topi_eq (iI_add z 7) ?_
  refine lv_imul hx hb d_Mo_indexOf_8 ?_
  refine topi_eq (iI_mul 15 (z + 7)) ?_
  refine lv_iload_n hx hb d_Mo_indexOf_9 rfl (lv_at hl 1 rfl) ?_
  refine lv_iadd hx hb d_Mo_indexOf_10 ?_
  refine topi_eq (iI_add (15 * (z + 7)) y) ?_
  refine lv_bipush (v := 7) hx hb d_Mo_indexOf_11 (by decide) ?_
  refine lv_iadd hx hb d_Mo_indexOf_13 ?_
  refine topi_eq (iI_add ((15 * (z + 7)) + y) 7) ?_
  refine lv_imul hx hb d_Mo_indexOf_14 ?_
  refine topi_eq (iI_mul 15 (((15 * (z + 7)) + y) + 7)) ?_
  refine lv_iload_n hx hb d_Mo_indexOf_15 rfl (lv_at hl 0 rfl) ?_
  refine lv_iadd hx hb d_Mo_indexOf_16 ?_
  refine topi_eq (iI_add (15 * (((15 * (z + 7)) + y) + 7)) x) ?_
  refine lv_bipush (v := 7) hx hb d_Mo_indexOf_17 (by decide) ?_
  refine lv_iadd hx hb d_Mo_indexOf_19 ?_
  refine topi_eq (iI_add ((15 * (((15 * (z + 7)) + y) + 7)) + x) 7) ?_
  exact hret _ _ _ d_Mo_indexOf_20 (rfl)
set_option maxHeartbeats 400000 in
set_option maxRecDepth 100000 in
theorem c_Mo_byteAt (l : Launch) (D : va_G) (cT : Nat → ClassId) (ad : Nat → Nat) (I : Nat → Int32) (J : Nat → Int64) (a : Nat → Nat → Int32) (g : Nat → Nat → Int64) (k : Int32) (j : Nat) (hj : k < I 6 → k = nI j ∧ j < 160) : MRi l D cT ad y_Mo_byteAt b_Mo_byteAt 2 (some .int) 0 0 [.int k] I J a g (fun r => r = if k < I 6 then a 5 j else -4) := by
  refine mr_enti (by decide) rfl (Nat.le_of_ble_eq_true rfl) ?_
  intro p e s m args below meth c Q hC hK hM hret ls hl
  have hx := hC.1
  have hb := hC.2.1
  replace hl : lv_has ls 2 [(0, .ref (ad 46)), (1, .int k)] := hl
  refine lv_iload_n hx hb d_Mo_byteAt_0 rfl (lv_at hl 1 rfl) ?_
  refine lv_aload_n hx hb d_Mo_byteAt_1 rfl (lv_at hl 0 rfl) ?_
  refine mo_geti hC hK hM 6 wf_Mo_87 rfl rfl (by decide) (v := I 6) (rfl) d_Mo_byteAt_2 ?_
  refine ic_ge (tgt := 17) hx hb d_Mo_byteAt_5 (by decide) (fun h1 => ?_) (fun h1 => ?_)
  · skip
    refine lv_bipush (v := (-4)) hx hb d_Mo_byteAt_17 (by decide) ?_
    exact hret _ _ _ d_Mo_byteAt_19 (by simp [h1])
  · skip
    refine lv_aload_n hx hb d_Mo_byteAt_8 rfl (lv_at hl 0 rfl) ?_
    refine mo_getr hC hK hM 5 wf_Mo_22 rfl (by decide) (by decide) d_Mo_byteAt_9 ?_
    refine lv_iload_n hx hb d_Mo_byteAt_12 rfl (lv_at hl 1 rfl) ?_
    refine mo_ialdN hC hK hM 5 j (by decide) rfl (n := 160) rfl (by decide) (i := k) ((hj h1).1) ((hj h1).2) (v := (a 5) j) (rfl) d_Mo_byteAt_13 ?_
    refine lv_goto (tgt := 19) hx hb d_Mo_byteAt_14 (by decide) ?_
    exact hret _ _ _ d_Mo_byteAt_19 (by simp [h1])
set_option maxHeartbeats 400000 in
set_option maxRecDepth 100000 in
theorem c_Mo_fails (l : Launch) (D : va_G) (cT : Nat → ClassId) (ad : Nat → Nat) (I : Nat → Int32) (J : Nat → Int64) (a : Nat → Nat → Int32) (g : Nat → Nat → Int64) (k : Int32)   : MMv l D cT ad y_Mo_fails b_Mo_fails 2 none 0 0 [.int k] I J a g (fun u => u = ((if I 8 = 0 then upd (upd I 8 k) 9 (I 11) else I), J, a, g)) := by
  refine mo_entv (by decide) rfl (Nat.le_of_ble_eq_true rfl) ?_
  intro p e s m args below meth c Q hC hK hM hret ls hl
  have hx := hC.1
  have hb := hC.2.1
  replace hl : lv_has ls 2 [(0, .ref (ad 46)), (1, .int k)] := hl
  refine lv_aload_n hx hb d_Mo_fails_0 rfl (lv_at hl 0 rfl) ?_
  refine mo_geti hC hK hM 8 wf_Mo_95 rfl rfl (by decide) (v := I 8) (rfl) d_Mo_fails_1 ?_
  refine lv_if_ne (tgt := 20) hx hb d_Mo_fails_4 (by decide) (fun h1 => ?_) (fun h1 => ?_)
  · skip
    exact hret _ _ _ _ _ _ _ _ d_Mo_fails_20 hM (by simp [h1])
  · skip
    refine lv_aload_n hx hb d_Mo_fails_7 rfl (lv_at hl 0 rfl) ?_
    refine lv_iload_n hx hb d_Mo_fails_8 rfl (lv_at hl 1 rfl) ?_
    refine mo_puti hC hK hM 8 wf_Mo_95 rfl rfl (by decide) rfl (by decide +kernel) (x := k) d_Mo_fails_9 (fun H locs hM => ?_)
    refine lv_aload_n hx hb d_Mo_fails_12 rfl (lv_at hl 0 rfl) ?_
    refine lv_aload_n hx hb d_Mo_fails_13 rfl (lv_at hl 0 rfl) ?_
    refine mo_geti hC hK hM 11 wf_Mo_98 rfl rfl (by decide) (v := I 11) (rfl) d_Mo_fails_14 ?_
    refine mo_puti hC hK hM 9 wf_Mo_101 rfl rfl (by decide) rfl (by decide +kernel) (x := I 11) d_Mo_fails_17 (fun H locs hM => ?_)
    exact hret _ _ _ _ _ _ _ _ d_Mo_fails_20 hM (by simp [h1])
set_option maxHeartbeats 400000 in
set_option maxRecDepth 100000 in
theorem c_Mo_fault (l : Launch) (D : va_G) (cT : Nat → ClassId) (ad : Nat → Nat) (I : Nat → Int32) (J : Nat → Int64) (a : Nat → Nat → Int32) (g : Nat → Nat → Int64)    : MRi l D cT ad y_Mo_fault b_Mo_fault 1 (some .int) 0 0 [] I J a g (fun r => r = I 7) := by
  refine mr_enti (by decide) rfl (Nat.le_of_ble_eq_true rfl) ?_
  intro p e s m args below meth c Q hC hK hM hret ls hl
  have hx := hC.1
  have hb := hC.2.1
  replace hl : lv_has ls 1 [(0, .ref (ad 46))] := hl
  refine lv_aload_n hx hb d_Mo_fault_0 rfl (lv_at hl 0 rfl) ?_
  refine mo_geti hC hK hM 7 wf_Mo_172 rfl rfl (by decide) (v := I 7) (rfl) d_Mo_fault_1 ?_
  exact hret _ _ _ d_Mo_fault_4 (rfl)
set_option maxHeartbeats 400000 in
set_option maxRecDepth 100000 in
theorem c_Mo_drop (l : Launch) (D : va_G) (cT : Nat → ClassId) (ad : Nat → Nat) (I : Nat → Int32) (J : Nat → Int64) (a : Nat → Nat → Int32) (g : Nat → Nat → Int64)    : MMi l D cT ad y_Mo_drop b_Mo_drop 1 (some .int) 0 0 [] I J a g (fun r u => r = (if I 0 = 0 then -4 else I 0 - 1) ∧ u = ((if I 0 = 0 then I else upd I 0 (I 0 - 1)), J, a, g)) := by
  refine mo_enti (by decide) rfl (Nat.le_of_ble_eq_true rfl) ?_
  intro p e s m args below meth c Q hC hK hM hret ls hl
  have hx := hC.1
  have hb := hC.2.1
  replace hl : lv_has ls 1 [(0, .ref (ad 46))] := hl
  refine lv_aload_n hx hb d_Mo_drop_0 rfl (lv_at hl 0 rfl) ?_
  refine mo_geti hC hK hM 0 wf_Mo_155 rfl rfl (by decide) (v := I 0) (rfl) d_Mo_drop_1 ?_
  refine lv_if_ne (tgt := 10) hx hb d_Mo_drop_4 (by decide) (fun h1 => ?_) (fun h1 => ?_)
  · skip
    refine lv_aload_n hx hb d_Mo_drop_10 rfl (lv_at hl 0 rfl) ?_
    refine lv_dup hx hb d_Mo_drop_11 rfl ?_
    refine mo_geti hC hK hM 0 wf_Mo_155 rfl rfl (by decide) (v := I 0) (rfl) d_Mo_drop_12 ?_
    refine lv_iconst (v := 1) hx hb d_Mo_drop_15 (by decide) ?_
    refine lv_isub hx hb d_Mo_drop_16 ?_
    refine mo_puti hC hK hM 0 wf_Mo_155 rfl rfl (by decide) rfl (by decide +kernel) (x := (I 0) - 1) d_Mo_drop_17 (fun H locs hM => ?_)
    refine lv_aload_n hx hb d_Mo_drop_20 rfl (lv_at hl 0 rfl) ?_
    refine mo_geti hC hK hM 0 wf_Mo_155 rfl rfl (by decide) (v := (I 0) - 1) (rfl) d_Mo_drop_21 ?_
    exact hret _ _ _ _ _ _ _ _ _ d_Mo_drop_24 hM (by simp [h1])
  · skip
    refine lv_bipush (v := (-4)) hx hb d_Mo_drop_7 (by decide) ?_
    exact hret _ _ _ _ _ _ _ _ _ d_Mo_drop_9 hM (by simp [h1])
set_option maxHeartbeats 400000 in
set_option maxRecDepth 100000 in
theorem c_Mo_is (l : Launch) (D : va_G) (cT : Nat → ClassId) (ad : Nat → Nat) (I : Nat → Int32) (J : Nat → Int64) (a : Nat → Nat → Int32) (g : Nat → Nat → Int64) (b : Int32) (nb : Nat) (hnb : I 0 = nI nb) (h8 : nb ≤ 8) : MRi l D cT ad y_Mo_is b_Mo_is 2 (some .boolean) 1 25 [.int b] I J a g (fun r => r = bI (0 ≤ b.toInt ∧ b.toInt < nb)) := by
  refine mr_entz (by decide) rfl (Nat.le_of_ble_eq_true rfl) ?_
  intro p e s m args below meth c Q hC hK hM hret ls hl
  have hx := hC.1
  have hb := hC.2.1
  replace hl : lv_has ls 2 [(0, .ref (ad 46)), (1, .int b)] := hl
  refine lv_iload_n hx hb d_Mo_is_0 rfl (lv_at hl 1 rfl) ?_
  refine lv_i2l (v := iL b.toInt) hx hb d_Mo_is_1 (x_l _) ?_
  refine lv_lconst (v := 0) hx hb d_Mo_is_2 (by decide) ?_
  refine lv_aload_n hx hb d_Mo_is_3 rfl (lv_at hl 0 rfl) ?_
  refine mo_geti hC hK hM 0 wf_Mo_155 rfl rfl (by decide) (v := I 0) (rfl) d_Mo_is_4 ?_
  refine lv_iconst (v := 1) hx hb d_Mo_is_7 (by decide) ?_
  refine lv_isub hx hb d_Mo_is_8 ?_
  refine lv_i2l (v := iL ((I 0) - 1).toInt) hx hb d_Mo_is_9 (x_l _) ?_
  refine st_calli (np := 3) hC (c_Mo_in l (iL (b.toInt)) 0 (iL (((I 0) - 1).toInt)) b.toInt 0 (((I 0) - 1).toInt) (iL_tx b) rfl (iL_tx ((I 0) - 1))) ⟨wl_Mo_91, wt_Mo_in, wc_Mo_in, wn_Mo⟩ ⟨by decide, by decide, by decide +kernel⟩ ⟨Nat.le_of_ble_eq_true rfl, Nat.le_of_ble_eq_true rfl⟩ hl.1 rfl (rest := []) rfl (Nat.le_of_ble_eq_true rfl) ⟨Nat.zero_le _, Nat.zero_le _⟩ d_Mo_is_10 (fun rr hrr => ?_)
  subst hrr
  exact hret _ _ _ d_Mo_is_13 (bI_01) (bI_c (is_eq hnb h8))
set_option maxHeartbeats 400000 in
set_option maxRecDepth 100000 in
theorem c_Mo_end (l : Launch) (D : va_G) (cT : Nat → ClassId) (ad : Nat → Nat) (I : Nat → Int32) (J : Nat → Int64) (a : Nat → Nat → Int32) (g : Nat → Nat → Int64) (n : Int32)   : MMi l D cT ad y_Mo_end b_Mo_end 3 (some .int) 1 25 [.int n] I J a g (fun r u => r = (if 0 ≤ n.toInt ∧ n.toInt ≤ (I 6).toInt then I 6 else -1) ∧ u = ((if 0 ≤ n.toInt ∧ n.toInt ≤ (I 6).toInt then upd I 6 n else I), J, a, g)) := by
  refine mo_enti (by decide) rfl (Nat.le_of_ble_eq_true rfl) ?_
  intro p e s m args below meth c Q hC hK hM hret ls hl
  have hx := hC.1
  have hb := hC.2.1
  replace hl : lv_has ls 3 [(0, .ref (ad 46)), (1, .int n)] := hl
  refine lv_iload_n hx hb d_Mo_end_0 rfl (lv_at hl 1 rfl) ?_
  refine lv_i2l (v := iL n.toInt) hx hb d_Mo_end_1 (x_l _) ?_
  refine lv_lconst (v := 0) hx hb d_Mo_end_2 (by decide) ?_
  refine lv_aload_n hx hb d_Mo_end_3 rfl (lv_at hl 0 rfl) ?_
  refine mo_geti hC hK hM 6 wf_Mo_87 rfl rfl (by decide) (v := I 6) (rfl) d_Mo_end_4 ?_
  refine lv_i2l (v := iL (I 6).toInt) hx hb d_Mo_end_7 (x_l _) ?_
  refine st_calli (np := 3) hC (c_Mo_in l (iL (n.toInt)) 0 (iL ((I 6).toInt)) n.toInt 0 ((I 6).toInt) (iL_tx n) rfl (iL_tx (I 6))) ⟨wl_Mo_91, wt_Mo_in, wc_Mo_in, wn_Mo⟩ ⟨by decide, by decide, by decide +kernel⟩ ⟨Nat.le_of_ble_eq_true rfl, Nat.le_of_ble_eq_true rfl⟩ hl.1 rfl (rest := []) rfl (Nat.le_of_ble_eq_true rfl) ⟨Nat.zero_le _, Nat.zero_le _⟩ d_Mo_end_8 (fun rr hrr => ?_)
  subst hrr
  refine bz_ne (tgt := 16) hx hb d_Mo_end_11 (by decide) (fun h1 => ?_) (fun h1 => ?_)
  · skip
    refine lv_aload_n hx hb d_Mo_end_16 rfl (lv_at hl 0 rfl) ?_
    refine mo_geti hC hK hM 6 wf_Mo_87 rfl rfl (by decide) (v := I 6) (rfl) d_Mo_end_17 ?_
    refine lv_istore_n (lv' := [(2, .int (I 6)), (0, .ref (ad 46)), (1, .int n)]) hx hb d_Mo_end_20 rfl hl (by decide) rfl (fun ls hl => ?_)
    refine lv_aload_n hx hb d_Mo_end_21 rfl (lv_at hl 1 rfl) ?_
    refine lv_iload_n hx hb d_Mo_end_22 rfl (lv_at hl 2 rfl) ?_
    refine mo_puti hC hK hM 6 wf_Mo_87 rfl rfl (by decide) rfl (by decide +kernel) (x := n) d_Mo_end_23 (fun H locs hM => ?_)
    refine lv_iload_n hx hb d_Mo_end_26 rfl (lv_at hl 0 rfl) ?_
    exact hret _ _ _ _ _ _ _ _ _ d_Mo_end_27 hM (by simp [h1])
  · skip
    refine lv_iconst (v := (-1)) hx hb d_Mo_end_14 (by decide) ?_
    exact hret _ _ _ _ _ _ _ _ _ d_Mo_end_15 hM (by simp [h1])
