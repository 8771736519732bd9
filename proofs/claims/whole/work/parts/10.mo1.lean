/-! the reference: its small methods -/
set_option maxHeartbeats 4000000 in
set_option maxRecDepth 100000 in
theorem c_Mo_in (l : Launch) (v : Int64) (lo : Int64) (hi : Int64)   : SMi l y_Mo_in b_Mo_in 6 (some .boolean) 0 0 [.long v, .long lo, .long hi] (fun r => r = if lo ≤ v ∧ v ≤ hi then 1 else 0) := by
  refine st_entz (own := R_Mo) (by decide) rfl (Nat.le_of_ble_eq_true rfl) ?_
  intro p e s m args below meth c Q hC hret ls hl
  have hx := hC.1
  have hb := hC.2.1
  replace hl : lv_has ls 6 [(0, .long v), (2, .long lo), (4, .long hi)] := hl
  refine lv_lload_n hx hb d_Mo_in_0 rfl (lv_at hl 0 rfl) ?_
  refine lv_lload_n hx hb d_Mo_in_1 rfl (lv_at hl 1 rfl) ?_
  refine lc_lt (tgt := 17) hx hb d_Mo_in_2 d_Mo_in_3 (by decide) (fun h1 => ?_) (fun h1 => ?_)
  · skip
    refine lv_iconst (v := 0) hx hb d_Mo_in_17 (by decide) ?_
    exact hret _ _ _ d_Mo_in_18 (by first | exact Or.inl rfl | exact Or.inr rfl | assumption) (by simp only [Int64.lt_iff_toInt_lt, Int64.le_iff_toInt_le] at h1 ⊢; split <;> first | rfl | (exfalso; omega))
  · skip
    refine lv_lload_n hx hb d_Mo_in_6 rfl (lv_at hl 0 rfl) ?_
    refine lv_lload hx hb d_Mo_in_7 (lv_at hl 2 rfl) ?_
    refine lc_gt (tgt := 17) hx hb d_Mo_in_9 d_Mo_in_10 (by decide) (fun h2 => ?_) (fun h2 => ?_)
    · skip
      refine lv_iconst (v := 0) hx hb d_Mo_in_17 (by decide) ?_
      exact hret _ _ _ d_Mo_in_18 (by first | exact Or.inl rfl | exact Or.inr rfl | assumption) (by simp only [Int64.lt_iff_toInt_lt, Int64.le_iff_toInt_le] at h1 h2 ⊢; split <;> first | rfl | (exfalso; omega))
    · skip
      refine lv_iconst (v := 1) hx hb d_Mo_in_13 (by decide) ?_
      refine lv_goto (tgt := 18) hx hb d_Mo_in_14 (by decide) ?_
      exact hret _ _ _ d_Mo_in_18 (by first | exact Or.inl rfl | exact Or.inr rfl | assumption) (by simp only [Int64.lt_iff_toInt_lt, Int64.le_iff_toInt_le] at h1 h2 ⊢; split <;> first | rfl | (exfalso; omega))
set_option maxHeartbeats 4000000 in
set_option maxRecDepth 100000 in
theorem c_Mo_numbersOf (l : Launch) (k : Int32)   : SMi l y_Mo_numbersOf b_Mo_numbersOf 1 (some .int) 0 0 [.int k] (fun r => r = if k = 0 ∨ k = 2 then 4 else if k = 1 then 6 else if k = 6 then 3 else if k = 9 then 1 else 0) := by
  refine st_enti (own := R_Mo) (by decide) rfl (Nat.le_of_ble_eq_true rfl) ?_
  intro p e s m args below meth c Q hC hret ls hl
  have hx := hC.1
  have hb := hC.2.1
  replace hl : lv_has ls 1 [(0, .int k)] := hl
  refine lv_iload_n hx hb d_Mo_numbersOf_0 rfl (lv_at hl 0 rfl) ?_
  refine lv_if_eq (tgt := 9) hx hb d_Mo_numbersOf_1 (by decide) (fun h1 => ?_) (fun h1 => ?_)
  · skip
    refine lv_iconst (v := 4) hx hb d_Mo_numbersOf_9 (by decide) ?_
    refine lv_goto (tgt := 44) hx hb d_Mo_numbersOf_10 (by decide) ?_
    exact hret _ _ _ d_Mo_numbersOf_44 (by simp [h1])
  · skip
    refine lv_iload_n hx hb d_Mo_numbersOf_4 rfl (lv_at hl 0 rfl) ?_
    refine lv_iconst (v := 2) hx hb d_Mo_numbersOf_5 (by decide) ?_
    refine lv_icmp_ne (tgt := 13) hx hb d_Mo_numbersOf_6 (by decide) (fun h2 => ?_) (fun h2 => ?_)
    · skip
      refine lv_iload_n hx hb d_Mo_numbersOf_13 rfl (lv_at hl 0 rfl) ?_
      refine lv_iconst (v := 1) hx hb d_Mo_numbersOf_14 (by decide) ?_
      refine lv_icmp_ne (tgt := 23) hx hb d_Mo_numbersOf_15 (by decide) (fun h3 => ?_) (fun h3 => ?_)
      · skip
        refine lv_iload_n hx hb d_Mo_numbersOf_23 rfl (lv_at hl 0 rfl) ?_
        refine lv_bipush (v := 6) hx hb d_Mo_numbersOf_24 (by decide) ?_
        refine lv_icmp_ne (tgt := 33) hx hb d_Mo_numbersOf_26 (by decide) (fun h4 => ?_) (fun h4 => ?_)
        · skip
          refine lv_iload_n hx hb d_Mo_numbersOf_33 rfl (lv_at hl 0 rfl) ?_
          refine lv_bipush (v := 9) hx hb d_Mo_numbersOf_34 (by decide) ?_
          refine lv_icmp_ne (tgt := 43) hx hb d_Mo_numbersOf_36 (by decide) (fun h5 => ?_) (fun h5 => ?_)
          · skip
            refine lv_iconst (v := 0) hx hb d_Mo_numbersOf_43 (by decide) ?_
            exact hret _ _ _ d_Mo_numbersOf_44 (by simp [h1, h2, h3, h4, h5])
          · skip
            refine lv_iconst (v := 1) hx hb d_Mo_numbersOf_39 (by decide) ?_
            refine lv_goto (tgt := 44) hx hb d_Mo_numbersOf_40 (by decide) ?_
            exact hret _ _ _ d_Mo_numbersOf_44 (by simp [h1, h2, h3, h4, h5])
        · skip
          refine lv_iconst (v := 3) hx hb d_Mo_numbersOf_29 (by decide) ?_
          refine lv_goto (tgt := 44) hx hb d_Mo_numbersOf_30 (by decide) ?_
          exact hret _ _ _ d_Mo_numbersOf_44 (by simp [h1, h2, h3, h4])
      · skip
        refine lv_bipush (v := 6) hx hb d_Mo_numbersOf_18 (by decide) ?_
        refine lv_goto (tgt := 44) hx hb d_Mo_numbersOf_20 (by decide) ?_
        exact hret _ _ _ d_Mo_numbersOf_44 (by simp [h1, h2, h3])
    · skip
      refine lv_iconst (v := 4) hx hb d_Mo_numbersOf_9 (by decide) ?_
      refine lv_goto (tgt := 44) hx hb d_Mo_numbersOf_10 (by decide) ?_
      exact hret _ _ _ d_Mo_numbersOf_44 (by simp [h1, h2])
set_option maxHeartbeats 4000000 in
set_option maxRecDepth 100000 in
theorem c_Mo_textsOf (l : Launch) (k : Int32)   : SMi l y_Mo_textsOf b_Mo_textsOf 1 (some .int) 0 0 [.int k] (fun r => r = if k < 3 then 0 else if k < 6 then 2 else 1) := by
  refine st_enti (own := R_Mo) (by decide) rfl (Nat.le_of_ble_eq_true rfl) ?_
  intro p e s m args below meth c Q hC hret ls hl
  have hx := hC.1
  have hb := hC.2.1
  replace hl : lv_has ls 1 [(0, .int k)] := hl
  refine lv_iload_n hx hb d_Mo_textsOf_0 rfl (lv_at hl 0 rfl) ?_
  refine lv_iconst (v := 3) hx hb d_Mo_textsOf_1 (by decide) ?_
  refine ic_ge (tgt := 9) hx hb d_Mo_textsOf_2 (by decide) (fun h1 => ?_) (fun h1 => ?_)
  · skip
    refine lv_iload_n hx hb d_Mo_textsOf_9 rfl (lv_at hl 0 rfl) ?_
    refine lv_bipush (v := 6) hx hb d_Mo_textsOf_10 (by decide) ?_
    refine ic_ge (tgt := 19) hx hb d_Mo_textsOf_12 (by decide) (fun h2 => ?_) (fun h2 => ?_)
    · skip
      refine lv_iconst (v := 1) hx hb d_Mo_textsOf_19 (by decide) ?_
      exact hret _ _ _ d_Mo_textsOf_20 (by simp only [Int32.lt_iff_toInt_lt, Int32.le_iff_toInt_le] at h1 h2 ⊢; split <;> first | rfl | (exfalso; omega) | (split <;> first | rfl | (exfalso; omega)))
    · skip
      refine lv_iconst (v := 2) hx hb d_Mo_textsOf_15 (by decide) ?_
      refine lv_goto (tgt := 20) hx hb d_Mo_textsOf_16 (by decide) ?_
      exact hret _ _ _ d_Mo_textsOf_20 (by simp only [Int32.lt_iff_toInt_lt, Int32.le_iff_toInt_le] at h1 h2 ⊢; split <;> first | rfl | (exfalso; omega) | (split <;> first | rfl | (exfalso; omega)))
  · skip
    refine lv_iconst (v := 0) hx hb d_Mo_textsOf_5 (by decide) ?_
    refine lv_goto (tgt := 20) hx hb d_Mo_textsOf_6 (by decide) ?_
    exact hret _ _ _ d_Mo_textsOf_20 (by simp only [Int32.lt_iff_toInt_lt, Int32.le_iff_toInt_le] at h1 ⊢; split <;> first | rfl | (exfalso; omega) | (split <;> first | rfl | (exfalso; omega)))
set_option maxHeartbeats 4000000 in
set_option maxRecDepth 100000 in
theorem c_Mo_modulo (l : Launch) (v : Int64) (n : Int32)  (hn : ¬ n.toInt64 = 0) : SMl l y_Mo_modulo b_Mo_modulo 5 (some .long) 0 0 [.long v, .int n] (fun r => r = if v - v / n.toInt64 * n.toInt64 < 0 then v - v / n.toInt64 * n.toInt64 + n.toInt64 else v - v / n.toInt64 * n.toInt64) := by
  refine st_entl (own := R_Mo) (by decide) rfl (Nat.le_of_ble_eq_true rfl) ?_
  intro p e s m args below meth c Q hC hret ls hl
  have hx := hC.1
  have hb := hC.2.1
  replace hl : lv_has ls 5 [(0, .long v), (2, .int n)] := hl
  refine lv_lload_n hx hb d_Mo_modulo_0 rfl (lv_at hl 0 rfl) ?_
  refine lv_iload_n hx hb d_Mo_modulo_1 rfl (lv_at hl 1 rfl) ?_
  refine lv_i2l hx hb d_Mo_modulo_2 rfl ?_
  refine lv_lrem hx hb d_Mo_modulo_3 (hn) ?_
  refine lv_lstore_n (lv' := [(3, .long (v - v / n.toInt64 * n.toInt64)), (0, .long v), (2, .int n)]) hx hb d_Mo_modulo_4 rfl hl (by decide) rfl (fun ls hl => ?_)
  refine lv_lload_n hx hb d_Mo_modulo_5 rfl (lv_at hl 0 rfl) ?_
  refine lv_lconst (v := 0) hx hb d_Mo_modulo_6 (by decide) ?_
  refine ls_ge (tgt := 18) hx hb d_Mo_modulo_7 d_Mo_modulo_8 (by decide) (fun h1 => ?_) (fun h1 => ?_)
  · skip
    refine lv_lload_n hx hb d_Mo_modulo_18 rfl (lv_at hl 0 rfl) ?_
    exact hret _ _ _ d_Mo_modulo_19 (by simp [h1])
  · skip
    refine lv_lload_n hx hb d_Mo_modulo_11 rfl (lv_at hl 0 rfl) ?_
    refine lv_iload_n hx hb d_Mo_modulo_12 rfl (lv_at hl 2 rfl) ?_
    refine lv_i2l hx hb d_Mo_modulo_13 rfl ?_
    refine lv_ladd hx hb d_Mo_modulo_14 ?_
    refine lv_goto (tgt := 19) hx hb d_Mo_modulo_15 (by decide) ?_
    exact hret _ _ _ d_Mo_modulo_19 (by simp [h1])
set_option maxHeartbeats 4000000 in
set_option maxRecDepth 100000 in
theorem c_Mo_byteAt (l : Launch) (D : va_G) (cT : Nat → ClassId) (ad : Nat → Nat) (I : Nat → Int32) (J : Nat → Int64) (a : Nat → Nat → Int32) (g : Nat → Nat → Int64) (k : Int32)  (hk : k < I 6 → vp_in k 160) : MRi l D cT ad y_Mo_byteAt b_Mo_byteAt 2 (some .int) 0 0 [.int k] I J a g (fun r => r = if k < I 6 then a 5 k.toNatClampNeg else -4) := by
  refine mr_enti (by decide) rfl (Nat.le_of_ble_eq_true rfl) ?_
  intro p e s m args below meth c Q hC hK hM hret ls hl
  have hx := hC.1
  have hb := hC.2.1
  replace hl : lv_has ls 2 [(0, .ref (ad 46)), (1, .int k)] := hl
  refine lv_iload_n hx hb d_Mo_byteAt_0 rfl (lv_at hl 1 rfl) ?_
  refine lv_aload_n hx hb d_Mo_byteAt_1 rfl (lv_at hl 0 rfl) ?_
  refine mo_geti hC hK hM 6 wf_Mo_87 rfl rfl (by decide) (v := I 6) rfl d_Mo_byteAt_2 ?_
  refine ic_ge (tgt := 17) hx hb d_Mo_byteAt_5 (by decide) (fun h1 => ?_) (fun h1 => ?_)
  · skip
    refine lv_bipush (v := (-4)) hx hb d_Mo_byteAt_17 (by decide) ?_
    exact hret _ _ _ d_Mo_byteAt_19 (by simp [h1])
  · skip
    refine lv_aload_n hx hb d_Mo_byteAt_8 rfl (lv_at hl 0 rfl) ?_
    refine mo_getr hC hK hM 5 wf_Mo_22 rfl (by decide) (by decide) d_Mo_byteAt_9 ?_
    refine lv_iload_n hx hb d_Mo_byteAt_12 rfl (lv_at hl 1 rfl) ?_
    refine mo_iald hC hK hM 5 (by decide) rfl (n := 160) rfl (i := k) (hk h1) (v := (a 5) k.toNatClampNeg) rfl d_Mo_byteAt_13 ?_
    refine lv_goto (tgt := 19) hx hb d_Mo_byteAt_14 (by decide) ?_
    exact hret _ _ _ d_Mo_byteAt_19 (by simp [h1])
set_option maxHeartbeats 4000000 in
set_option maxRecDepth 100000 in
theorem c_Mo_fails (l : Launch) (D : va_G) (cT : Nat → ClassId) (ad : Nat → Nat) (I : Nat → Int32) (J : Nat → Int64) (a : Nat → Nat → Int32) (g : Nat → Nat → Int64) (k : Int32)   : MMv l D cT ad y_Mo_fails b_Mo_fails 2 none 0 0 [.int k] I J a g (fun u => u = ((if I 8 = 0 then upd (upd I 8 k) 9 (I 11) else I), J, a, g)) := by
  refine mo_entv (by decide) rfl (Nat.le_of_ble_eq_true rfl) ?_
  intro p e s m args below meth c Q hC hK hM hret ls hl
  have hx := hC.1
  have hb := hC.2.1
  replace hl : lv_has ls 2 [(0, .ref (ad 46)), (1, .int k)] := hl
  refine lv_aload_n hx hb d_Mo_fails_0 rfl (lv_at hl 0 rfl) ?_
  refine mo_geti hC hK hM 8 wf_Mo_95 rfl rfl (by decide) (v := I 8) rfl d_Mo_fails_1 ?_
  refine lv_if_ne (tgt := 20) hx hb d_Mo_fails_4 (by decide) (fun h1 => ?_) (fun h1 => ?_)
  · skip
    exact hret _ _ _ _ _ _ _ _ d_Mo_fails_20 hM (by simp [h1])
  · skip
    refine lv_aload_n hx hb d_Mo_fails_7 rfl (lv_at hl 0 rfl) ?_
    refine lv_iload_n hx hb d_Mo_fails_8 rfl (lv_at hl 1 rfl) ?_
    refine mo_puti hC hK hM 8 wf_Mo_95 rfl rfl (by decide) rfl (by decide +kernel) (x := k) d_Mo_fails_9 (fun H locs hM => ?_)
    refine lv_aload_n hx hb d_Mo_fails_12 rfl (lv_at hl 0 rfl) ?_
    refine lv_aload_n hx hb d_Mo_fails_13 rfl (lv_at hl 0 rfl) ?_
    refine mo_geti hC hK hM 11 wf_Mo_98 rfl rfl (by decide) (v := I 11) rfl d_Mo_fails_14 ?_
    refine mo_puti hC hK hM 9 wf_Mo_101 rfl rfl (by decide) rfl (by decide +kernel) (x := I 11) d_Mo_fails_17 (fun H locs hM => ?_)
    exact hret _ _ _ _ _ _ _ _ d_Mo_fails_20 hM (by simp [h1])
set_option maxHeartbeats 4000000 in
set_option maxRecDepth 100000 in
theorem c_Mo_fault (l : Launch) (D : va_G) (cT : Nat → ClassId) (ad : Nat → Nat) (I : Nat → Int32) (J : Nat → Int64) (a : Nat → Nat → Int32) (g : Nat → Nat → Int64)    : MRi l D cT ad y_Mo_fault b_Mo_fault 1 (some .int) 0 0 [] I J a g (fun r => r = I 7) := by
  refine mr_enti (by decide) rfl (Nat.le_of_ble_eq_true rfl) ?_
  intro p e s m args below meth c Q hC hK hM hret ls hl
  have hx := hC.1
  have hb := hC.2.1
  replace hl : lv_has ls 1 [(0, .ref (ad 46))] := hl
  refine lv_aload_n hx hb d_Mo_fault_0 rfl (lv_at hl 0 rfl) ?_
  refine mo_geti hC hK hM 7 wf_Mo_172 rfl rfl (by decide) (v := I 7) rfl d_Mo_fault_1 ?_
  exact hret _ _ _ d_Mo_fault_4 (rfl)
set_option maxHeartbeats 4000000 in
set_option maxRecDepth 100000 in
theorem c_Mo_drop (l : Launch) (D : va_G) (cT : Nat → ClassId) (ad : Nat → Nat) (I : Nat → Int32) (J : Nat → Int64) (a : Nat → Nat → Int32) (g : Nat → Nat → Int64)    : MMi l D cT ad y_Mo_drop b_Mo_drop 1 (some .int) 0 0 [] I J a g (fun r u => r = (if I 0 = 0 then -4 else I 0 - 1) ∧ u = ((if I 0 = 0 then I else upd I 0 (I 0 - 1)), J, a, g)) := by
  refine mo_enti (by decide) rfl (Nat.le_of_ble_eq_true rfl) ?_
  intro p e s m args below meth c Q hC hK hM hret ls hl
  have hx := hC.1
  have hb := hC.2.1
  replace hl : lv_has ls 1 [(0, .ref (ad 46))] := hl
  refine lv_aload_n hx hb d_Mo_drop_0 rfl (lv_at hl 0 rfl) ?_
  refine mo_geti hC hK hM 0 wf_Mo_155 rfl rfl (by decide) (v := I 0) rfl d_Mo_drop_1 ?_
  refine lv_if_ne (tgt := 10) hx hb d_Mo_drop_4 (by decide) (fun h1 => ?_) (fun h1 => ?_)
  · skip
    refine lv_aload_n hx hb d_Mo_drop_10 rfl (lv_at hl 0 rfl) ?_
    refine lv_dup hx hb d_Mo_drop_11 rfl ?_
    refine mo_geti hC hK hM 0 wf_Mo_155 rfl rfl (by decide) (v := I 0) rfl d_Mo_drop_12 ?_
    refine lv_iconst (v := 1) hx hb d_Mo_drop_15 (by decide) ?_
    refine lv_isub hx hb d_Mo_drop_16 ?_
    refine mo_puti hC hK hM 0 wf_Mo_155 rfl rfl (by decide) rfl (by decide +kernel) (x := (I 0) - 1) d_Mo_drop_17 (fun H locs hM => ?_)
    refine lv_aload_n hx hb d_Mo_drop_20 rfl (lv_at hl 0 rfl) ?_
    refine mo_geti hC hK hM 0 wf_Mo_155 rfl rfl (by decide) (v := (I 0) - 1) rfl d_Mo_drop_21 ?_
    exact hret _ _ _ _ _ _ _ _ _ d_Mo_drop_24 hM (by simp [h1])
  · skip
    refine lv_bipush (v := (-4)) hx hb d_Mo_drop_7 (by decide) ?_
    exact hret _ _ _ _ _ _ _ _ _ d_Mo_drop_9 hM (by simp [h1])
set_option maxHeartbeats 4000000 in
set_option maxRecDepth 100000 in
theorem c_Mo_is (l : Launch) (D : va_G) (cT : Nat → ClassId) (ad : Nat → Nat) (I : Nat → Int32) (J : Nat → Int64) (a : Nat → Nat → Int32) (g : Nat → Nat → Int64) (b : Int32)   : MRi l D cT ad y_Mo_is b_Mo_is 2 (some .boolean) 1 25 [.int b] I J a g (fun r => r = if (0 : Int64) ≤ b.toInt64 ∧ b.toInt64 ≤ (I 0 - 1).toInt64 then 1 else 0) := by
  refine mr_entz (by decide) rfl (Nat.le_of_ble_eq_true rfl) ?_
  intro p e s m args below meth c Q hC hK hM hret ls hl
  have hx := hC.1
  have hb := hC.2.1
  replace hl : lv_has ls 2 [(0, .ref (ad 46)), (1, .int b)] := hl
  refine lv_iload_n hx hb d_Mo_is_0 rfl (lv_at hl 1 rfl) ?_
  refine lv_i2l hx hb d_Mo_is_1 rfl ?_
  refine lv_lconst (v := 0) hx hb d_Mo_is_2 (by decide) ?_
  refine lv_aload_n hx hb d_Mo_is_3 rfl (lv_at hl 0 rfl) ?_
  refine mo_geti hC hK hM 0 wf_Mo_155 rfl rfl (by decide) (v := I 0) rfl d_Mo_is_4 ?_
  refine lv_iconst (v := 1) hx hb d_Mo_is_7 (by decide) ?_
  refine lv_isub hx hb d_Mo_is_8 ?_
  refine lv_i2l hx hb d_Mo_is_9 rfl ?_
  refine st_calli (np := 3) hC (c_Mo_in l b.toInt64 0 (((I 0) - 1).toInt64)) ⟨wl_Mo_91, wt_Mo_in, wc_Mo_in, wn_Mo⟩ ⟨by decide, by decide, by decide +kernel⟩ ⟨Nat.le_of_ble_eq_true rfl, Nat.le_of_ble_eq_true rfl⟩ hl.1 rfl (rest := []) rfl (Nat.le_of_ble_eq_true rfl) ⟨Nat.zero_le _, Nat.zero_le _⟩ d_Mo_is_10 (fun rr hrr => ?_)
  subst hrr
  exact hret _ _ _ d_Mo_is_13 (by split <;> simp) (rfl)
