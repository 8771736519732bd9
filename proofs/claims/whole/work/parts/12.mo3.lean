/-! the reference: the tape, the sheets, count -/
/-- byte i of eight, the highest first -/
def by8 (v : Int64) (i : Nat) : Int32 := (v >>> ((iI (56 - 8 * (i : Int))).toInt64 &&& 63)).toInt32 &&& 255
def shA (a : Nat → Nat → Int32) (k lane n : Int32) : Nat → Nat → Int32 := va_up (va_up (va_up a 43 (upd (a 43) k.toInt.toNat lane)) 44 (upd (a 44) k.toInt.toNat n)) 45 (zr (a 45) (64 * k.toInt.toNat) 64)
def layV (lane v : Int32) : Int32 := if lane = 0 then v <<< ((24 : Int32) &&& 31) >>> ((24 : Int32) &&& 31) else if lane = 1 then v <<< ((16 : Int32) &&& 31) >>> ((16 : Int32) &&& 31) else v
theorem nb_pred {x : Int32} {nb : Nat} (hnb : x = nI nb) (h8 : nb ≤ 8) (h : ¬ x = 0) : x - 1 = nI (nb - 1) := by
  rcases Nat.eq_zero_or_pos nb with q | q
  · rw [hnb, q] at h; exact absurd rfl h
  · rw [hnb, nI_lit]; exact nI_sb q
theorem up_same {α : Type} (f : Nat → α) (k : Nat) : va_up f k (f k) = f := by
  funext j
  unfold va_up
  by_cases h : j = k <;> simp [h]
theorem upd_same2 {f : Nat → Int32} {k : Nat} {x : Int32} (h : f k = x) : upd f k x = f := by
  funext j
  unfold upd
  by_cases hj : j = k
  · subst hj; simp [h]
  · simp [hj]
theorem up_same2 {α : Type} {f : Nat → α} {k : Nat} {x : α} (h : f k = x) : va_up f k x = f := by rw [← h]; exact up_same f k
set_option maxHeartbeats 400000 in
set_option maxRecDepth 100000 in
theorem c_Mo_feed (l : Launch) (D : va_G) (cT : Nat → ClassId) (ad : Nat → Nat) (I : Nat → Int32) (J : Nat → Int64) (a : Nat → Nat → Int32) (g : Nat → Nat → Int64) (v : Int64) (t : Nat) (ht : I 6 = nI t) (h160 : t ≤ 160) : MMi l D cT ad y_Mo_feed b_Mo_feed 4 (some .int) 0 0 [.long v] I J a g (fun r u => if 160 < t + 8 then r = -3 ∧ u = (I, J, a, g) else r = nI (t + 8) ∧ u = (upd I 6 (nI (t + 8)), J, va_up a 5 (pt (a 5) (by8 v) t 8), g)) := by
  refine mo_enti (by decide) rfl (Nat.le_of_ble_eq_true rfl) ?_
  intro p e s m args below meth c Q hC hK hM hret ls hl
  have hx := hC.1
  have hb := hC.2.1
  replace hl : lv_has ls 4 [(0, .ref (ad 46)), (1, .long v)] := hl
  refine lv_aload_n hx hb d_Mo_feed_0 rfl (lv_at hl 0 rfl) ?_
  refine mo_geti hC hK hM 6 wf_Mo_87 rfl rfl (by decide) (v := I 6) (rfl) d_Mo_feed_1 ?_
  refine lv_bipush (v := 8) hx hb d_Mo_feed_4 (by decide) ?_
  rw [ht]
  refine lv_iadd hx hb d_Mo_feed_6 ?_
  refine topi_eq (nI_add t 8) ?_
  refine lv_sipush (v := 160) hx hb d_Mo_feed_7 (by decide) ?_
  refine nc_le hx hb (t + 8) 160 (by omega) (by omega) d_Mo_feed_10 (tgt := 16) (by decide) (fun h1 => ?_) (fun h1 => ?_)
  · skip
    refine lv_bipush (v := 56) hx hb d_Mo_feed_16 (by decide) ?_
    refine lv_istore_n (lv' := [(3, .int 56), (0, .ref (ad 46)), (1, .long v)]) hx hb d_Mo_feed_18 rfl hl (by decide) rfl (fun ls hl => ?_)
    have hL19 : ∀ (nn : Nat) (i : Nat) (H : Heap) (locs : List Loc) (ls : Array Slot), 8 - i < nn → (i ≤ 8) → MO D cT ad (upd I 6 (nI (t + i))) J (va_up a 5 (pt (a 5) (by8 v) t i)) g s.heap H locs → lv_has ls 4 [(0, .ref (ad 46)), (1, .long v), (3, .int (iI (56 - 8 * (i : Int))))] → W p l e (rmOf 0 0) s m args below meth c H locs 0 0 Q (F0 m 19 ls []) := by
      intro nn
      induction nn with
      | zero =>
        intro i H locs ls hmeas19 hi hM hl
        exact absurd hmeas19 (Nat.not_lt_zero _)
      | succ nn ih19 =>
        intro i H locs ls hmeas19 hi hM hl
        refine lv_iload_n hx hb d_Mo_feed_19 rfl (lv_at hl 2 rfl) ?_
        refine zz_lt hx hb (56 - 8 * (i : Int)) (by omega) (by omega) d_Mo_feed_20 (tgt := 56) (by decide) (fun h2 => ?_) (fun h2 => ?_)
        · skip
          refine lv_aload_n hx hb d_Mo_feed_56 rfl (lv_at hl 0 rfl) ?_
          refine mo_geti hC hK hM 6 wf_Mo_87 rfl rfl (by decide) (v := nI (t + i)) (rfl) d_Mo_feed_57 ?_
          refine hret _ _ _ _ _ _ _ _ _ d_Mo_feed_60 hM ?_
          rw [if_neg (by omega)]
          obtain rfl : i = 8 := by omega
          exact ⟨rfl, rfl⟩
        · skip
          refine lv_aload_n hx hb d_Mo_feed_23 rfl (lv_at hl 0 rfl) ?_
          refine mo_getr hC hK hM 5 wf_Mo_22 rfl (by decide) (by decide) d_Mo_feed_24 ?_
          refine lv_aload_n hx hb d_Mo_feed_27 rfl (lv_at hl 0 rfl) ?_
          refine mo_geti hC hK hM 6 wf_Mo_87 rfl rfl (by decide) (v := nI (t + i)) (rfl) d_Mo_feed_28 ?_
          refine lv_lload_n hx hb d_Mo_feed_31 rfl (lv_at hl 1 rfl) ?_
          refine lv_iload_n hx hb d_Mo_feed_32 rfl (lv_at hl 2 rfl) ?_
          refine lv_lshr hx hb d_Mo_feed_33 rfl ?_
          refine lv_l2i hx hb d_Mo_feed_34 rfl ?_
          refine lv_sipush (v := 255) hx hb d_Mo_feed_35 (by decide) ?_
          refine lv_iand hx hb d_Mo_feed_38 ?_
          refine mo_iastN hC hK hM 5 (t + i) (by decide) rfl (n := 160) rfl (by decide) (i := nI (t + i)) (x := ((v >>> ((iI (56 - 8 * (i : Int))).toInt64 &&& 63)).toInt32) &&& 255) (rfl) (by omega) d_Mo_feed_39 (fun H locs hM => ?_)
          rw [bx_uu] at hM
          replace hM : MO D cT ad (upd I 6 (nI (t + i))) J (va_up a 5 (upd (pt (a 5) (by8 v) t i) (t + i) (((v >>> ((iI (56 - 8 * (i : Int))).toInt64 &&& 63)).toInt32) &&& 255))) g s.heap H locs := hM
          refine lv_aload_n hx hb d_Mo_feed_40 rfl (lv_at hl 0 rfl) ?_
          refine lv_dup hx hb d_Mo_feed_41 rfl ?_
          refine mo_geti hC hK hM 6 wf_Mo_87 rfl rfl (by decide) (v := nI (t + i)) (rfl) d_Mo_feed_42 ?_
          refine lv_iconst (v := 1) hx hb d_Mo_feed_45 (by decide) ?_
          refine lv_iadd hx hb d_Mo_feed_46 ?_
          refine topi_eq (nI_add (t + i) 1) ?_
          refine mo_puti hC hK hM 6 wf_Mo_87 rfl rfl (by decide) rfl (by decide +kernel) (x := nI ((t + i) + 1)) d_Mo_feed_47 (fun H locs hM => ?_)
          rw [upd_upd] at hM
          refine lv_iinc (v := iI ((56 - 8 * (i : Int)) + (-8))) (lv' := [(3, .int (iI ((56 - 8 * (i : Int)) + (-8)))), (0, .ref (ad 46)), (1, .long v)]) hx hb d_Mo_feed_50 hl (k := 2) rfl (iI_add (56 - 8 * (i : Int)) (-8)) (by decide) rfl (fun ls hl => ?_)
          refine lv_goto (tgt := 19) hx hb d_Mo_feed_53 (by decide) ?_
          exact ih19 (i + 1) _ _ _ (by omega) (by omega) (by rw [← pt_succ (x := by8 v i) _ _ _ _ rfl]; exact hM) (by rw [show (56 - 8 * ((i + 1 : Nat) : Int)) = 56 - 8 * (i : Int) + (-8) by omega]; exact lv_sub hl [1, 2, 0] rfl)
    exact hL19 _ 0 _ _ _ (Nat.lt_succ_self _) (by omega) (by rw [pt_0, up_same, upd_same2 (by rw [ht]; rfl)]; exact hM) (lv_sub hl [1, 2, 0] rfl)
  · skip
    refine lv_bipush (v := (-3)) hx hb d_Mo_feed_13 (by decide) ?_
    exact hret _ _ _ _ _ _ _ _ _ d_Mo_feed_15 hM (by rw [if_pos (by omega)]; exact ⟨rfl, rfl⟩)
set_option maxHeartbeats 400000 in
set_option maxRecDepth 100000 in
theorem c_Mo_count (l : Launch) (D : va_G) (cT : Nat → ClassId) (ad : Nat → Nat) (I : Nat → Int32) (J : Nat → Int64) (a : Nat → Nat → Int32) (g : Nat → Nat → Int64) (w : Int32) (nb : Nat) (hnb : I 0 = nI nb) (h8 : nb ≤ 8) : MRi l D cT ad y_Mo_count b_Mo_count 2 (some .int) 0 0 [.int w] I J a g (fun r => r = if w = 0 then I 0 else if w = 1 then (if a 43 0 = -4 then -4 else a 44 0) else if w = 2 then I 6 else if w = 3 then (if I 0 = 0 then -4 else a 1 (nb - 1)) else -1) := by
  refine mr_enti (by decide) rfl (Nat.le_of_ble_eq_true rfl) ?_
  intro p e s m args below meth c Q hC hK hM hret ls hl
  have hx := hC.1
  have hb := hC.2.1
  replace hl : lv_has ls 2 [(0, .ref (ad 46)), (1, .int w)] := hl
  refine lv_iload_n hx hb d_Mo_count_0 rfl (lv_at hl 1 rfl) ?_
  refine lv_if_ne (tgt := 11) hx hb d_Mo_count_1 (by decide) (fun h1 => ?_) (fun h1 => ?_)
  · skip
    refine lv_iload_n hx hb d_Mo_count_11 rfl (lv_at hl 1 rfl) ?_
    refine lv_iconst (v := 1) hx hb d_Mo_count_12 (by decide) ?_
    refine lv_icmp_ne (tgt := 41) hx hb d_Mo_count_13 (by decide) (fun h2 => ?_) (fun h2 => ?_)
    · skip
      refine lv_iload_n hx hb d_Mo_count_41 rfl (lv_at hl 1 rfl) ?_
      refine lv_iconst (v := 2) hx hb d_Mo_count_42 (by decide) ?_
      refine lv_icmp_ne (tgt := 53) hx hb d_Mo_count_43 (by decide) (fun h3 => ?_) (fun h3 => ?_)
      · skip
        refine lv_iload_n hx hb d_Mo_count_53 rfl (lv_at hl 1 rfl) ?_
        refine lv_iconst (v := 3) hx hb d_Mo_count_54 (by decide) ?_
        refine lv_icmp_ne (tgt := 84) hx hb d_Mo_count_55 (by decide) (fun h4 => ?_) (fun h4 => ?_)
        · skip
          refine lv_iconst (v := (-1)) hx hb d_Mo_count_84 (by decide) ?_
          exact hret _ _ _ d_Mo_count_85 (by simp [h1, h2, h3, h4])
        · skip
          refine lv_aload_n hx hb d_Mo_count_58 rfl (lv_at hl 0 rfl) ?_
          refine mo_geti hC hK hM 0 wf_Mo_155 rfl rfl (by decide) (v := I 0) (rfl) d_Mo_count_59 ?_
          refine lv_if_ne (tgt := 70) hx hb d_Mo_count_62 (by decide) (fun h5 => ?_) (fun h5 => ?_)
          · skip
            refine lv_aload_n hx hb d_Mo_count_70 rfl (lv_at hl 0 rfl) ?_
            refine mo_getr hC hK hM 1 wf_Mo_7 rfl (by decide) (by decide) d_Mo_count_71 ?_
            refine lv_aload_n hx hb d_Mo_count_74 rfl (lv_at hl 0 rfl) ?_
            refine mo_geti hC hK hM 0 wf_Mo_155 rfl rfl (by decide) (v := I 0) (rfl) d_Mo_count_75 ?_
            refine lv_iconst (v := 1) hx hb d_Mo_count_78 (by decide) ?_
            refine lv_isub hx hb d_Mo_count_79 ?_
            refine mo_ialdN hC hK hM 1 (nb - 1) (by decide) rfl (n := 8) rfl (by decide) (i := (I 0) - 1) (nb_pred hnb h8 (by assumption)) (by omega) (v := (a 1) (nb - 1)) (rfl) d_Mo_count_80 ?_
            refine lv_goto (tgt := 85) hx hb d_Mo_count_81 (by decide) ?_
            exact hret _ _ _ d_Mo_count_85 (by simp [h1, h2, h3, h4, h5])
          · skip
            refine lv_bipush (v := (-4)) hx hb d_Mo_count_65 (by decide) ?_
            refine lv_goto (tgt := 85) hx hb d_Mo_count_67 (by decide) ?_
            exact hret _ _ _ d_Mo_count_85 (by simp [h1, h2, h3, h4, h5])
      · skip
        refine lv_aload_n hx hb d_Mo_count_46 rfl (lv_at hl 0 rfl) ?_
        refine mo_geti hC hK hM 6 wf_Mo_87 rfl rfl (by decide) (v := I 6) (rfl) d_Mo_count_47 ?_
        refine lv_goto (tgt := 85) hx hb d_Mo_count_50 (by decide) ?_
        exact hret _ _ _ d_Mo_count_85 (by simp [h1, h2, h3])
    · skip
      refine lv_aload_n hx hb d_Mo_count_16 rfl (lv_at hl 0 rfl) ?_
      refine mo_getr hC hK hM 43 wf_Mo_78 rfl (by decide) (by decide) d_Mo_count_17 ?_
      refine lv_iconst (v := 0) hx hb d_Mo_count_20 (by decide) ?_
      refine mo_ialdN hC hK hM 43 0 (by decide) rfl (n := 4) rfl (by decide) (i := 0) (rfl) (by decide) (v := (a 43) 0) (rfl) d_Mo_count_21 ?_
      refine lv_bipush (v := (-4)) hx hb d_Mo_count_22 (by decide) ?_
      refine lv_icmp_ne (tgt := 32) hx hb d_Mo_count_24 (by decide) (fun h6 => ?_) (fun h6 => ?_)
      · skip
        refine lv_aload_n hx hb d_Mo_count_32 rfl (lv_at hl 0 rfl) ?_
        refine mo_getr hC hK hM 44 wf_Mo_81 rfl (by decide) (by decide) d_Mo_count_33 ?_
        refine lv_iconst (v := 0) hx hb d_Mo_count_36 (by decide) ?_
        refine mo_ialdN hC hK hM 44 0 (by decide) rfl (n := 4) rfl (by decide) (i := 0) (rfl) (by decide) (v := (a 44) 0) (rfl) d_Mo_count_37 ?_
        refine lv_goto (tgt := 85) hx hb d_Mo_count_38 (by decide) ?_
        exact hret _ _ _ d_Mo_count_85 (by simp [h1, h2, h6])
      · skip
        refine lv_bipush (v := (-4)) hx hb d_Mo_count_27 (by decide) ?_
        refine lv_goto (tgt := 85) hx hb d_Mo_count_29 (by decide) ?_
        exact hret _ _ _ d_Mo_count_85 (by simp [h1, h2, h6])
  · skip
    refine lv_aload_n hx hb d_Mo_count_4 rfl (lv_at hl 0 rfl) ?_
    refine mo_geti hC hK hM 0 wf_Mo_155 rfl rfl (by decide) (v := I 0) (rfl) d_Mo_count_5 ?_
    refine lv_goto (tgt := 85) hx hb d_Mo_count_8 (by decide) ?_
    exact hret _ _ _ d_Mo_count_85 (by simp [h1])
set_option maxHeartbeats 400000 in
set_option maxRecDepth 100000 in
theorem c_Mo_sheet (l : Launch) (D : va_G) (cT : Nat → ClassId) (ad : Nat → Nat) (I : Nat → Int32) (J : Nat → Int64) (a : Nat → Nat → Int32) (g : Nat → Nat → Int64) (k : Int32) (lane : Int32) (n : Int32)   : MMi l D cT ad y_Mo_sheet b_Mo_sheet 5 (some .int) 1 25 [.int k, .int lane, .int n] I J a g (fun r u => if (0 ≤ k.toInt ∧ k.toInt ≤ 3) ∧ (0 ≤ lane.toInt ∧ lane.toInt ≤ 2) ∧ n.toInt ≤ 64 then (if n.toInt < 0 then r = -14 ∧ u = (I, J, a, g) else r = 1 ∧ u = (I, J, shA a k lane n, g)) else r = -1 ∧ u = (I, J, a, g)) := by
  refine mo_enti (by decide) rfl (Nat.le_of_ble_eq_true rfl) ?_
  intro p e s m args below meth c Q hC hK hM hret ls hl
  have hx := hC.1
  have hb := hC.2.1
  replace hl : lv_has ls 5 [(0, .ref (ad 46)), (1, .int k), (2, .int lane), (3, .int n)] := hl
  refine lv_iload_n hx hb d_Mo_sheet_0 rfl (lv_at hl 1 rfl) ?_
  refine lv_i2l (v := iL k.toInt) hx hb d_Mo_sheet_1 (x_l _) ?_
  refine lv_lconst (v := 0) hx hb d_Mo_sheet_2 (by decide) ?_
  refine lv_ldc2 (v := 3) hx hb hC.2.2.2.1 (hC.2.2.2.2 _ wx_Mo_266) d_Mo_sheet_3 ?_
  refine st_calli (np := 3) hC (c_Mo_in l (iL (k.toInt)) 0 3 k.toInt 0 3 (iL_tx k) rfl rfl) ⟨wl_Mo_91, wt_Mo_in, wc_Mo_in, wn_Mo⟩ ⟨by decide, by decide, by decide +kernel⟩ ⟨Nat.le_of_ble_eq_true rfl, Nat.le_of_ble_eq_true rfl⟩ hl.1 rfl (rest := []) rfl (Nat.le_of_ble_eq_true rfl) ⟨Nat.zero_le _, Nat.zero_le _⟩ d_Mo_sheet_6 (fun rr hrr => ?_)
  subst hrr
  refine bz_eq (tgt := 30) hx hb d_Mo_sheet_9 (by decide) (fun h1 => ?_) (fun h1 => ?_)
  · skip
    refine lv_iconst (v := (-1)) hx hb d_Mo_sheet_30 (by decide) ?_
    exact hret _ _ _ _ _ _ _ _ _ d_Mo_sheet_31 hM (by rw [if_neg (by omega)]; exact ⟨rfl, rfl⟩)
  · skip
    refine lv_iload_n hx hb d_Mo_sheet_12 rfl (lv_at hl 2 rfl) ?_
    refine lv_i2l (v := iL lane.toInt) hx hb d_Mo_sheet_13 (x_l _) ?_
    refine lv_lconst (v := 0) hx hb d_Mo_sheet_14 (by decide) ?_
    refine lv_ldc2 (v := 2) hx hb hC.2.2.2.1 (hC.2.2.2.2 _ wx_Mo_153) d_Mo_sheet_15 ?_
    refine st_calli (np := 3) hC (c_Mo_in l (iL (lane.toInt)) 0 2 lane.toInt 0 2 (iL_tx lane) rfl rfl) ⟨wl_Mo_91, wt_Mo_in, wc_Mo_in, wn_Mo⟩ ⟨by decide, by decide, by decide +kernel⟩ ⟨Nat.le_of_ble_eq_true rfl, Nat.le_of_ble_eq_true rfl⟩ hl.1 rfl (rest := []) rfl (Nat.le_of_ble_eq_true rfl) ⟨Nat.zero_le _, Nat.zero_le _⟩ d_Mo_sheet_18 (fun rr hrr => ?_)
    subst hrr
    refine bz_eq (tgt := 30) hx hb d_Mo_sheet_21 (by decide) (fun h2 => ?_) (fun h2 => ?_)
    · skip
      refine lv_iconst (v := (-1)) hx hb d_Mo_sheet_30 (by decide) ?_
      exact hret _ _ _ _ _ _ _ _ _ d_Mo_sheet_31 hM (by rw [if_neg (by omega)]; exact ⟨rfl, rfl⟩)
    · skip
      refine lv_iload_n hx hb d_Mo_sheet_24 rfl (lv_at hl 3 rfl) ?_
      refine lv_bipush (v := 64) hx hb d_Mo_sheet_25 (by decide) ?_
      refine yc_le hx hb n.toInt 64 (rfl) (rfl) d_Mo_sheet_27 (tgt := 32) (by decide) (fun h3 => ?_) (fun h3 => ?_)
      · skip
        refine lv_iload_n hx hb d_Mo_sheet_32 rfl (lv_at hl 3 rfl) ?_
        refine yz_ge hx hb n.toInt (rfl) d_Mo_sheet_33 (tgt := 39) (by decide) (fun h4 => ?_) (fun h4 => ?_)
        · skip
          refine lv_aload_n hx hb d_Mo_sheet_39 rfl (lv_at hl 0 rfl) ?_
          refine mo_getr hC hK hM 43 wf_Mo_78 rfl (by decide) (by decide) d_Mo_sheet_40 ?_
          obtain ⟨q, hq, rfl, hqt⟩ := ex_nI (n := 3) h1.1 h1.2
          refine lv_iload_n hx hb d_Mo_sheet_43 rfl (lv_at hl 1 rfl) ?_
          refine lv_iload_n hx hb d_Mo_sheet_44 rfl (lv_at hl 2 rfl) ?_
          refine mo_iastN hC hK hM 43 q (by decide) rfl (n := 4) rfl (by decide) (i := nI q) (x := lane) (rfl) (by omega) d_Mo_sheet_45 (fun H locs hM => ?_)
          refine lv_aload_n hx hb d_Mo_sheet_46 rfl (lv_at hl 0 rfl) ?_
          refine mo_getr hC hK hM 44 wf_Mo_81 rfl (by decide) (by decide) d_Mo_sheet_47 ?_
          refine lv_iload_n hx hb d_Mo_sheet_50 rfl (lv_at hl 1 rfl) ?_
          refine lv_iload_n hx hb d_Mo_sheet_51 rfl (lv_at hl 3 rfl) ?_
          refine mo_iastN hC hK hM 44 q (by decide) rfl (n := 4) rfl (by decide) (i := nI q) (x := n) (rfl) (by omega) d_Mo_sheet_52 (fun H locs hM => ?_)
          replace hM : MO D cT ad I J (va_up (va_up a 43 (upd (a 43) q lane)) 44 (upd (a 44) q n)) g s.heap H locs := hM
          refine lv_iconst (v := 0) hx hb d_Mo_sheet_53 (by decide) ?_
          refine lv_istore (lv' := [(4, .int 0), (0, .ref (ad 46)), (1, .int (nI q)), (2, .int lane), (3, .int n)]) hx hb d_Mo_sheet_54 hl (by decide) rfl (fun ls hl => ?_)
          have hL56 : ∀ (nn : Nat) (i : Nat) (H : Heap) (locs : List Loc) (ls : Array Slot), 64 - i < nn → (i ≤ 64) → MO D cT ad I J (va_up (va_up (va_up a 43 (upd (a 43) q lane)) 44 (upd (a 44) q n)) 45 (zr (a 45) (64 * q) i)) g s.heap H locs → lv_has ls 5 [(0, .ref (ad 46)), (1, .int (nI q)), (4, .int (nI i))] → W p l e (rmOf 1 25) s m args below meth c H locs 0 0 Q (F0 m 56 ls []) := by
            intro nn
            induction nn with
            | zero =>
              intro i H locs ls hmeas56 hi hM hl
              exact absurd hmeas56 (Nat.not_lt_zero _)
            | succ nn ih56 =>
              intro i H locs ls hmeas56 hi hM hl
              refine lv_iload hx hb d_Mo_sheet_56 (lv_at hl 2 rfl) ?_
              refine lv_bipush (v := 64) hx hb d_Mo_sheet_58 (by decide) ?_
              refine nc_ge hx hb i 64 (by omega) (by omega) d_Mo_sheet_60 (tgt := 82) (by decide) (fun h5 => ?_) (fun h5 => ?_)
              · skip
                refine lv_iconst (v := 1) hx hb d_Mo_sheet_82 (by decide) ?_
                refine hret _ _ _ _ _ _ _ _ _ d_Mo_sheet_83 hM ?_
                rw [if_pos (by omega), if_neg (by omega)]
                obtain rfl : i = 64 := by omega
                refine ⟨rfl, ?_⟩
                unfold shA
                rw [hqt]
                rfl
              · skip
                refine lv_aload_n hx hb d_Mo_sheet_63 rfl (lv_at hl 0 rfl) ?_
                refine mo_getr hC hK hM 45 wf_Mo_84 rfl (by decide) (by decide) d_Mo_sheet_64 ?_
                refine lv_bipush (v := 64) hx hb d_Mo_sheet_67 (by decide) ?_
                refine lv_iload_n hx hb d_Mo_sheet_69 rfl (lv_at hl 1 rfl) ?_
                refine lv_imul hx hb d_Mo_sheet_70 ?_
                refine topi_eq (pk_mul 64 q) ?_
                refine lv_iload hx hb d_Mo_sheet_71 (lv_at hl 2 rfl) ?_
                refine lv_iadd hx hb d_Mo_sheet_73 ?_
                refine topi_eq (nI_add (64 * q) i) ?_
                refine lv_iconst (v := 0) hx hb d_Mo_sheet_74 (by decide) ?_
                refine mo_iastN hC hK hM 45 ((64 * q) + i) (by decide) rfl (n := 256) rfl (by decide) (i := nI ((64 * q) + i)) (x := 0) (rfl) (by omega) d_Mo_sheet_75 (fun H locs hM => ?_)
                rw [bx_uu] at hM
                replace hM : MO D cT ad I J (va_up (va_up (va_up a 43 (upd (a 43) q lane)) 44 (upd (a 44) q n)) 45 (upd (zr (a 45) (64 * q) i) ((64 * q) + i) 0)) g s.heap H locs := hM
                refine lv_iinc (v := nI (i + 1)) (lv' := [(4, .int (nI (i + 1))), (0, .ref (ad 46)), (1, .int (nI q))]) hx hb d_Mo_sheet_76 hl (k := 2) rfl (nI_add i 1) (by decide) rfl (fun ls hl => ?_)
                refine lv_goto (tgt := 56) hx hb d_Mo_sheet_79 (by decide) ?_
                exact ih56 (i + 1) _ _ _ (by omega) (by omega) (by rw [← zr_succ]; exact hM) (lv_sub hl [1, 2, 0] rfl)
          exact hL56 _ 0 _ _ _ (Nat.lt_succ_self _) (by omega) (by rw [zr_0, up_same2 (by rfl)]; exact hM) (lv_sub hl [1, 2, 0] rfl)
        · skip
          refine lv_bipush (v := (-14)) hx hb d_Mo_sheet_36 (by decide) ?_
          exact hret _ _ _ _ _ _ _ _ _ d_Mo_sheet_38 hM (by rw [if_pos (by omega), if_pos (by omega)]; exact ⟨rfl, rfl⟩)
      · skip
        refine lv_iconst (v := (-1)) hx hb d_Mo_sheet_30 (by decide) ?_
        exact hret _ _ _ _ _ _ _ _ _ d_Mo_sheet_31 hM (by rw [if_neg (by omega)]; exact ⟨rfl, rfl⟩)
set_option maxHeartbeats 400000 in
set_option maxRecDepth 100000 in
theorem c_Mo_lay (l : Launch) (D : va_G) (cT : Nat → ClassId) (ad : Nat → Nat) (I : Nat → Int32) (J : Nat → Int64) (a : Nat → Nat → Int32) (g : Nat → Nat → Int64) (k : Int32) (i : Int32) (v : Int32)  (hlen : ∀ q : Nat, q ≤ 3 → 0 ≤ (a 44 q).toInt ∧ (a 44 q).toInt ≤ 64) : MMi l D cT ad y_Mo_lay b_Mo_lay 4 (some .int) 1 25 [.int k, .int i, .int v] I J a g (fun r u => if (0 ≤ k.toInt ∧ k.toInt ≤ 3) then (if a 43 k.toInt.toNat = -4 then r = -11 ∧ u = (I, J, a, g) else if 0 ≤ i.toInt ∧ i.toInt < (a 44 k.toInt.toNat).toInt then r = 1 ∧ u = (I, J, va_up a 45 (upd (a 45) (64 * k.toInt.toNat + i.toInt.toNat) (layV (a 43 k.toInt.toNat) v)), g) else r = -12 ∧ u = (I, J, a, g)) else r = -1 ∧ u = (I, J, a, g)) := by
  refine mo_enti (by decide) rfl (Nat.le_of_ble_eq_true rfl) ?_
  intro p e s m args below meth c Q hC hK hM hret ls hl
  have hx := hC.1
  have hb := hC.2.1
  replace hl : lv_has ls 4 [(0, .ref (ad 46)), (1, .int k), (2, .int i), (3, .int v)] := hl
  refine lv_iload_n hx hb d_Mo_lay_0 rfl (lv_at hl 1 rfl) ?_
  refine lv_i2l (v := iL k.toInt) hx hb d_Mo_lay_1 (x_l _) ?_
  refine lv_lconst (v := 0) hx hb d_Mo_lay_2 (by decide) ?_
  refine lv_ldc2 (v := 3) hx hb hC.2.2.2.1 (hC.2.2.2.2 _ wx_Mo_266) d_Mo_lay_3 ?_
  refine st_calli (np := 3) hC (c_Mo_in l (iL (k.toInt)) 0 3 k.toInt 0 3 (iL_tx k) rfl rfl) ⟨wl_Mo_91, wt_Mo_in, wc_Mo_in, wn_Mo⟩ ⟨by decide, by decide, by decide +kernel⟩ ⟨Nat.le_of_ble_eq_true rfl, Nat.le_of_ble_eq_true rfl⟩ hl.1 rfl (rest := []) rfl (Nat.le_of_ble_eq_true rfl) ⟨Nat.zero_le _, Nat.zero_le _⟩ d_Mo_lay_6 (fun rr hrr => ?_)
  subst hrr
  refine bz_ne (tgt := 14) hx hb d_Mo_lay_9 (by decide) (fun h1 => ?_) (fun h1 => ?_)
  · skip
    refine lv_aload_n hx hb d_Mo_lay_14 rfl (lv_at hl 0 rfl) ?_
    refine mo_getr hC hK hM 43 wf_Mo_78 rfl (by decide) (by decide) d_Mo_lay_15 ?_
    obtain ⟨q, hq, rfl, hqt⟩ := ex_nI (n := 3) h1.1 h1.2
    refine lv_iload_n hx hb d_Mo_lay_18 rfl (lv_at hl 1 rfl) ?_
    refine mo_ialdN hC hK hM 43 q (by decide) rfl (n := 4) rfl (by decide) (i := nI q) (rfl) (by omega) (v := (a 43) q) (rfl) d_Mo_lay_19 ?_
    refine lv_bipush (v := (-4)) hx hb d_Mo_lay_20 (by decide) ?_
    refine lv_icmp_ne (tgt := 28) hx hb d_Mo_lay_22 (by decide) (fun h2 => ?_) (fun h2 => ?_)
    · skip
      refine lv_iload_n hx hb d_Mo_lay_28 rfl (lv_at hl 2 rfl) ?_
      refine lv_i2l (v := iL i.toInt) hx hb d_Mo_lay_29 (x_l _) ?_
      refine lv_lconst (v := 0) hx hb d_Mo_lay_30 (by decide) ?_
      refine lv_aload_n hx hb d_Mo_lay_31 rfl (lv_at hl 0 rfl) ?_
      refine mo_getr hC hK hM 44 wf_Mo_81 rfl (by decide) (by decide) d_Mo_lay_32 ?_
      refine lv_iload_n hx hb d_Mo_lay_35 rfl (lv_at hl 1 rfl) ?_
      refine mo_ialdN hC hK hM 44 q (by decide) rfl (n := 4) rfl (by decide) (i := nI q) (rfl) (by omega) (v := (a 44) q) (rfl) d_Mo_lay_36 ?_
      have hl4 := hlen q hq
      rw [iI_of (a 44 q)]
      refine lv_iconst (v := 1) hx hb d_Mo_lay_37 (by decide) ?_
      refine lv_isub hx hb d_Mo_lay_38 ?_
      refine topi_eq (iI_sub ((a 44 q).toInt) 1) ?_
      refine lv_i2l (v := iL (((a 44 q).toInt) - 1)) hx hb d_Mo_lay_39 (iI_l (z := ((a 44 q).toInt) - 1) (by have := hlen q hq; omega) (by have := hlen q hq; omega)) ?_
      refine st_calli (np := 3) hC (c_Mo_in l (iL (i.toInt)) 0 (iL (((a 44 q).toInt) - 1)) i.toInt 0 (((a 44 q).toInt) - 1) (iL_tx i) rfl (iL_toInt (by omega) (by omega))) ⟨wl_Mo_91, wt_Mo_in, wc_Mo_in, wn_Mo⟩ ⟨by decide, by decide, by decide +kernel⟩ ⟨Nat.le_of_ble_eq_true rfl, Nat.le_of_ble_eq_true rfl⟩ hl.1 rfl (rest := []) rfl (Nat.le_of_ble_eq_true rfl) ⟨Nat.zero_le _, Nat.zero_le _⟩ d_Mo_lay_40 (fun rr hrr => ?_)
      subst hrr
      refine bz_ne (tgt := 49) hx hb d_Mo_lay_43 (by decide) (fun h3 => ?_) (fun h3 => ?_)
      · skip
        refine lv_aload_n hx hb d_Mo_lay_49 rfl (lv_at hl 0 rfl) ?_
        refine mo_getr hC hK hM 45 wf_Mo_84 rfl (by decide) (by decide) d_Mo_lay_50 ?_
        obtain ⟨j, hj, rfl, hjt⟩ := ex_nI (x := i) (n := 63) (by omega) (by have := hlen q hq; omega)
        refine lv_bipush (v := 64) hx hb d_Mo_lay_53 (by decide) ?_
        refine lv_iload_n hx hb d_Mo_lay_55 rfl (lv_at hl 1 rfl) ?_
        refine lv_imul hx hb d_Mo_lay_56 ?_
        refine topi_eq (pk_mul 64 q) ?_
        refine lv_iload_n hx hb d_Mo_lay_57 rfl (lv_at hl 2 rfl) ?_
        refine lv_iadd hx hb d_Mo_lay_58 ?_
        refine topi_eq (nI_add (64 * q) j) ?_
        refine lv_aload_n hx hb d_Mo_lay_59 rfl (lv_at hl 0 rfl) ?_
        refine mo_getr hC hK hM 43 wf_Mo_78 rfl (by decide) (by decide) d_Mo_lay_60 ?_
        refine lv_iload_n hx hb d_Mo_lay_63 rfl (lv_at hl 1 rfl) ?_
        refine mo_ialdN hC hK hM 43 q (by decide) rfl (n := 4) rfl (by decide) (i := nI q) (rfl) (by omega) (v := (a 43) q) (rfl) d_Mo_lay_64 ?_
        refine lv_if_ne (tgt := 78) hx hb d_Mo_lay_65 (by decide) (fun h4 => ?_) (fun h4 => ?_)
        · skip
          refine lv_aload_n hx hb d_Mo_lay_78 rfl (lv_at hl 0 rfl) ?_
          refine mo_getr hC hK hM 43 wf_Mo_78 rfl (by decide) (by decide) d_Mo_lay_79 ?_
          refine lv_iload_n hx hb d_Mo_lay_82 rfl (lv_at hl 1 rfl) ?_
          refine mo_ialdN hC hK hM 43 q (by decide) rfl (n := 4) rfl (by decide) (i := nI q) (rfl) (by omega) (v := (a 43) q) (rfl) d_Mo_lay_83 ?_
          refine lv_iconst (v := 1) hx hb d_Mo_lay_84 (by decide) ?_
          refine lv_icmp_ne (tgt := 98) hx hb d_Mo_lay_85 (by decide) (fun h5 => ?_) (fun h5 => ?_)
          · skip
            refine lv_iload_n hx hb d_Mo_lay_98 rfl (lv_at hl 3 rfl) ?_
            refine mo_iastN hC hK hM 45 ((64 * q) + j) (by decide) rfl (n := 256) rfl (by decide) (i := nI ((64 * q) + j)) (x := v) (rfl) (by omega) d_Mo_lay_99 (fun H locs hM => ?_)
            refine lv_iconst (v := 1) hx hb d_Mo_lay_100 (by decide) ?_
            refine hret _ _ _ _ _ _ _ _ _ d_Mo_lay_101 hM ?_
            rw [if_pos (by omega), hqt, Int.toNat_natCast, if_neg (by assumption), if_pos (by omega), hjt, Int.toNat_natCast]
            refine ⟨rfl, ?_⟩
            unfold layV
            rw [if_neg h4, if_neg h5]
          · skip
            refine lv_iload_n hx hb d_Mo_lay_88 rfl (lv_at hl 3 rfl) ?_
            refine lv_bipush (v := 16) hx hb d_Mo_lay_89 (by decide) ?_
            refine lv_ishl hx hb d_Mo_lay_91 ?_
            refine lv_bipush (v := 16) hx hb d_Mo_lay_92 (by decide) ?_
            refine lv_ishr hx hb d_Mo_lay_94 ?_
            refine lv_goto (tgt := 99) hx hb d_Mo_lay_95 (by decide) ?_
            refine mo_iastN hC hK hM 45 ((64 * q) + j) (by decide) rfl (n := 256) rfl (by decide) (i := nI ((64 * q) + j)) (x := (v <<< (16 &&& 31)) >>> (16 &&& 31)) (rfl) (by omega) d_Mo_lay_99 (fun H locs hM => ?_)
            refine lv_iconst (v := 1) hx hb d_Mo_lay_100 (by decide) ?_
            refine hret _ _ _ _ _ _ _ _ _ d_Mo_lay_101 hM ?_
            rw [if_pos (by omega), hqt, Int.toNat_natCast, if_neg (by assumption), if_pos (by omega), hjt, Int.toNat_natCast]
            refine ⟨rfl, ?_⟩
            unfold layV
            rw [if_neg h4, if_pos h5]
        · skip
          refine lv_iload_n hx hb d_Mo_lay_68 rfl (lv_at hl 3 rfl) ?_
          refine lv_bipush (v := 24) hx hb d_Mo_lay_69 (by decide) ?_
          refine lv_ishl hx hb d_Mo_lay_71 ?_
          refine lv_bipush (v := 24) hx hb d_Mo_lay_72 (by decide) ?_
          refine lv_ishr hx hb d_Mo_lay_74 ?_
          refine lv_goto (tgt := 99) hx hb d_Mo_lay_75 (by decide) ?_
          refine mo_iastN hC hK hM 45 ((64 * q) + j) (by decide) rfl (n := 256) rfl (by decide) (i := nI ((64 * q) + j)) (x := (v <<< (24 &&& 31)) >>> (24 &&& 31)) (rfl) (by omega) d_Mo_lay_99 (fun H locs hM => ?_)
          refine lv_iconst (v := 1) hx hb d_Mo_lay_100 (by decide) ?_
          refine hret _ _ _ _ _ _ _ _ _ d_Mo_lay_101 hM ?_
          rw [if_pos (by omega), hqt, Int.toNat_natCast, if_neg (by assumption), if_pos (by omega), hjt, Int.toNat_natCast]
          refine ⟨rfl, ?_⟩
          unfold layV
          rw [if_pos h4]
      · skip
        refine lv_bipush (v := (-12)) hx hb d_Mo_lay_46 (by decide) ?_
        refine hret _ _ _ _ _ _ _ _ _ d_Mo_lay_48 hM ?_
        rw [if_pos (by omega), hqt, Int.toNat_natCast, if_neg (by assumption), if_neg (by omega)]
        exact ⟨rfl, rfl⟩
    · skip
      refine lv_bipush (v := (-11)) hx hb d_Mo_lay_25 (by decide) ?_
      refine hret _ _ _ _ _ _ _ _ _ d_Mo_lay_27 hM ?_
      rw [if_pos (by omega), hqt, Int.toNat_natCast, if_pos (by assumption)]
      exact ⟨rfl, rfl⟩
  · skip
    refine lv_iconst (v := (-1)) hx hb d_Mo_lay_12 (by decide) ?_
    exact hret _ _ _ _ _ _ _ _ _ d_Mo_lay_13 hM (by rw [if_neg h1]; exact ⟨rfl, rfl⟩)
