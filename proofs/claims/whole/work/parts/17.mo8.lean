/-! the reference: counts over the points within, rays, scans -/
def SP (I : Nat → Int32) (a : Nat → Nat → Int32) (u : MS) : Prop := u.1 0 = I 0 ∧ u.1 6 = I 6 ∧ u.1 7 = I 7 ∧ ∀ k, k ≤ 5 ∨ 43 ≤ k → u.2.2.1 k = a k
theorem SP_a {I : Nat → Int32} {J : Nat → Int64} {a a' : Nat → Nat → Int32} {g : Nat → Nat → Int64} (h : ∀ k, k ≤ 5 ∨ 43 ≤ k → a' k = a k) : SP I a (I, J, a', g) := ⟨rfl, rfl, rfl, h⟩
theorem SP_33 {I : Nat → Int32} {J : Nat → Int64} {a : Nat → Nat → Int32} {g : Nat → Nat → Int64} {f : Nat → Int32} : SP I a (I, J, va_up a 33 f, g) := SP_a (fun k hk => va_up_ne _ _ (by omega))
def hsd (t : TX) (k w : Nat) : Bool := decide (sdv k w < 3375) && vw t (sdv k w)
theorem hsd_c {t : TX} {f : Nat → Int32} (hf : ∀ j, j < 3375 → f j = wi t j) {k w : Nat} : (sdv k w < 3375 ∧ f (sdv k w) = 1) ↔ hsd t k w = true := by
  unfold hsd
  rw [Bool.and_eq_true, decide_eq_true_iff]
  constructor
  · intro ⟨h1, h2⟩
    rw [hf _ h1] at h2
    refine ⟨h1, ?_⟩
    cases h3 : vw t (sdv k w)
    · unfold wi at h2; rw [bI_f (by rw [h3]; decide)] at h2; cases h2
    · rfl
  · intro ⟨h1, h2⟩
    exact ⟨h1, by rw [hf _ h1]; exact bI_t h2⟩
theorem and3 (a b c : Bool) : (if (a && !b && !c) = true then 1 else 0) = (if a = true then (if b = true then 0 else if c = true then 0 else 1) else 0) := by cases a <;> cases b <;> cases c <;> rfl
theorem and3p (a : Bool) (p : Prop) [Decidable p] (c : Bool) : (if (a && (decide p && !c)) = true then 1 else 0) = (if a = true then (if p then (if c = true then 0 else 1) else 0) else 0) := by
  by_cases h : p <;> cases a <;> cases c <;> simp [h]
theorem ask_at {f : Nat → Int32} {t : TX} : ∀ j, j < 3375 → pt f (wi t) 0 3375 j = wi t j := fun _ h => pt_in0 h
theorem ask_01 {f : Nat → Int32} {t : TX} : ∀ j, j < 3375 → pt f (wi t) 0 3375 j = 0 ∨ pt f (wi t) 0 3375 j = 1 := fun j h => by rw [pt_in0 h]; exact bI_01
set_option maxHeartbeats 400000 in
set_option maxRecDepth 100000 in
theorem c_Mo_volume (l : Launch) (D : va_G) (cT : Nat → ClassId) (ad : Nat → Nat) (I : Nat → Int32) (J : Nat → Int64) (a : Nat → Nat → Int32) (g : Nat → Nat → Int64) (b : Int32) (nbo : Nat) (T : Nat → TX) (hnb : I 0 = nI nbo) (h8 : nbo ≤ 8) (hT : ∀ q, q < nbo → BDT a q (T q)) : MMi l D cT ad y_Mo_volume b_Mo_volume 4 (some .int) 6 169 [.int b] I J a g (fun r u => SP I a u ∧ r = if 0 ≤ b.toInt ∧ b.toInt < (nbo : Int) then nI (cn (vw (T b.toInt.toNat)) 3375) else -1) := by
  refine mo_enti (by decide) rfl (Nat.le_of_ble_eq_true rfl) ?_
  intro p e s m args below meth c Q hC hK hM hret ls hl
  have hx := hC.1
  have hb := hC.2.1
  replace hl : lv_has ls 4 [(0, .ref (ad 46)), (1, .int b)] := hl
  refine lv_aload_n hx hb d_Mo_volume_0 rfl (lv_at hl 0 rfl) ?_
  refine lv_iload_n hx hb d_Mo_volume_1 rfl (lv_at hl 1 rfl) ?_
  refine mo_callr (np := 1) hC hK hM (c_Mo_is l D cT ad I J a g b nbo hnb h8) rfl ⟨wl_Mo_204, wi_Mo_is, ws_Mo_is, wc_Mo_is, wn_Mo⟩ ⟨by decide, by decide, by decide +kernel⟩ ⟨Nat.le_of_ble_eq_true rfl, Nat.le_of_ble_eq_true rfl⟩ hl.1 rfl (rest := []) rfl (Nat.le_of_ble_eq_true rfl) ⟨Nat.zero_le _, Nat.zero_le _⟩ d_Mo_volume_2 (fun rr hrr => ?_)
  subst hrr
  refine bz_ne (tgt := 10) hx hb d_Mo_volume_5 (by decide) (fun h1 => ?_) (fun h1 => ?_)
  · skip
    obtain ⟨q, hq, rfl, hqt⟩ := ex_nI (n := 7) (x := b) (by omega) (by omega)
    have hqn : q < nbo := by omega
    refine lv_aload_n hx hb d_Mo_volume_10 rfl (lv_at hl 0 rfl) ?_
    refine lv_iload_n hx hb d_Mo_volume_11 rfl (lv_at hl 1 rfl) ?_
    refine mo_callv (np := 1) hC hK hM (c_Mo_ask l D cT ad I J a g q (T q) (by omega) (hT q (by omega))) rfl ⟨wl_Mo_263, wi_Mo_ask, ws_Mo_ask, wc_Mo_ask, wn_Mo⟩ ⟨by decide, by decide, by decide +kernel⟩ ⟨Nat.le_of_ble_eq_true rfl, Nat.le_of_ble_eq_true rfl⟩ hl.1 rfl (rest := []) rfl (Nat.le_of_ble_eq_true rfl) ⟨Nat.zero_le _, Nat.zero_le _⟩ d_Mo_volume_12 (fun I2 J2 a2 g2 H locs hp2 hM => ?_)
    obtain ⟨hI_p2, hA_p2⟩ := hp2
    replace hI_p2 : I2 = I := hI_p2
    replace hA_p2 : a2 = va_up a 33 (pt (a 33) (wi (T q)) 0 3375) := hA_p2
    rw [hI_p2, hA_p2] at hM
    refine lv_iconst (v := 0) hx hb d_Mo_volume_15 (by decide) ?_
    refine lv_istore_n (lv' := [(2, .int 0), (0, .ref (ad 46)), (1, .int (nI q))]) hx hb d_Mo_volume_16 rfl hl (by decide) rfl (fun ls hl => ?_)
    refine lv_iconst (v := 0) hx hb d_Mo_volume_17 (by decide) ?_
    refine lv_istore_n (lv' := [(3, .int 0), (2, .int 0), (0, .ref (ad 46)), (1, .int (nI q))]) hx hb d_Mo_volume_18 rfl hl (by decide) rfl (fun ls hl => ?_)
    have hL19 : ∀ (nn : Nat) (k : Nat) (H : Heap) (locs : List Loc) (ls : Array Slot), 3375 - k < nn → (k ≤ 3375) → MO D cT ad I J2 (va_up a 33 (pt (a 33) (wi (T q)) 0 3375)) g2 s.heap H locs → lv_has ls 4 [(0, .ref (ad 46)), (2, .int (nI (cn (vw (T q)) k))), (3, .int (nI k))] → W p l e (rmOf 6 169) s m args below meth c H locs 0 0 Q (F0 m 19 ls []) := by
      intro nn
      induction nn with
      | zero =>
        intro k H locs ls hmeas19 hk hM hl
        exact absurd hmeas19 (Nat.not_lt_zero _)
      | succ nn ih19 =>
        intro k H locs ls hmeas19 hk hM hl
        refine lv_iload_n hx hb d_Mo_volume_19 rfl (lv_at hl 2 rfl) ?_
        refine lv_sipush (v := 3375) hx hb d_Mo_volume_20 (by decide) ?_
        refine nc_ge hx hb k 3375 (by omega) (by omega) d_Mo_volume_23 (tgt := 49) (by decide) (fun h3 => ?_) (fun h3 => ?_)
        · skip
          refine lv_iload_n hx hb d_Mo_volume_49 rfl (lv_at hl 1 rfl) ?_
          refine hret _ _ _ _ _ _ _ _ _ d_Mo_volume_50 hM ?_
          obtain rfl : k = 3375 := by omega
          refine ⟨SP_33, ?_⟩
          rw [if_pos (by omega), hqt]
          rfl
        · skip
          refine lv_iload_n hx hb d_Mo_volume_26 rfl (lv_at hl 1 rfl) ?_
          refine lv_aload_n hx hb d_Mo_volume_27 rfl (lv_at hl 0 rfl) ?_
          refine mo_getr hC hK hM 33 wf_Mo_59 rfl (by decide) (by decide) d_Mo_volume_28 ?_
          refine lv_iload_n hx hb d_Mo_volume_31 rfl (lv_at hl 2 rfl) ?_
          refine mo_zaldN hC hK hM 33 k (by decide) rfl (n := 3375) rfl (by decide) (i := nI k) (rfl) (by omega) (v := bI (vw (T q) k = true)) (ask_at _ (by omega)) d_Mo_volume_32 ?_
          have hJ4 : ∀ (H : Heap) (locs : List Loc) (ls : Array Slot), MO D cT ad I J2 (va_up a 33 (pt (a 33) (wi (T q)) 0 3375)) g2 s.heap H locs → lv_has ls 4 [(0, .ref (ad 46)), (2, .int (nI (cn (vw (T q)) k))), (3, .int (nI k))] → W p l e (rmOf 6 169) s m args below meth c H locs 0 0 Q (F0 m 41 ls [.int (nI (if vw (T q) k = true then 1 else 0)), .int (nI (cn (vw (T q)) k))]) := ?_
          · skip
            refine bz_eq (tgt := 40) hx hb d_Mo_volume_33 (by decide) (fun h5 => ?_) (fun h5 => ?_)
            · skip
              refine lv_iconst (v := 0) hx hb d_Mo_volume_40 (by decide) ?_
              refine topi_eq (show (0 : Int32) = nI (if vw (T q) k = true then 1 else 0) by first | rfl | exact (bI_t (by assumption)).symm | exact (bI_f (by assumption)).symm | exact (bI_f (fun z => z (by assumption))).symm | (rw [if_neg h5]; done) | (rw [if_neg h5]; rfl) | (simp only [if_neg h5]; done) | (simp only [if_neg h5]; rfl)) ?_
              exact hJ4 _ _ _ (by first | exact hM | (simp only [if_neg h5]; exact hM)) (by first | exact lv_sub hl [0, 1, 2] rfl | (simp only [if_neg h5]; exact lv_sub hl [0, 1, 2] rfl))
            · skip
              refine lv_iconst (v := 1) hx hb d_Mo_volume_36 (by decide) ?_
              refine lv_goto (tgt := 41) hx hb d_Mo_volume_37 (by decide) ?_
              refine topi_eq (show (1 : Int32) = nI (if vw (T q) k = true then 1 else 0) by first | rfl | exact (bI_t (by assumption)).symm | exact (bI_f (by assumption)).symm | exact (bI_f (fun z => z (by assumption))).symm | (rw [if_pos h5]; done) | (rw [if_pos h5]; rfl) | (simp only [if_pos h5]; done) | (simp only [if_pos h5]; rfl)) ?_
              exact hJ4 _ _ _ (by first | exact hM | (simp only [if_pos h5]; exact hM)) (by first | exact lv_sub hl [0, 1, 2] rfl | (simp only [if_pos h5]; exact lv_sub hl [0, 1, 2] rfl))
          intro H locs ls hM hl
          refine lv_iadd hx hb d_Mo_volume_41 ?_
          refine topi_eq (nI_add (cn (vw (T q)) k) (if vw (T q) k = true then 1 else 0)) ?_
          refine lv_istore_n (lv' := [(2, .int (nI ((cn (vw (T q)) k) + (if vw (T q) k = true then 1 else 0)))), (0, .ref (ad 46)), (3, .int (nI k))]) hx hb d_Mo_volume_42 rfl hl (by decide) rfl (fun ls hl => ?_)
          refine lv_iinc (v := nI (k + 1)) (lv' := [(3, .int (nI (k + 1))), (2, .int (nI ((cn (vw (T q)) k) + (if vw (T q) k = true then 1 else 0)))), (0, .ref (ad 46))]) hx hb d_Mo_volume_43 hl (k := 2) rfl (nI_add k 1) (by decide) rfl (fun ls hl => ?_)
          refine lv_goto (tgt := 19) hx hb d_Mo_volume_46 (by decide) ?_
          exact ih19 (k + 1) _ _ _ (by omega) (by omega) (hM) (by rw [show cn (vw (T q)) (k + 1) = (cn (vw (T q)) k) + (if vw (T q) k = true then 1 else 0) from rfl]; exact lv_sub hl [2, 1, 0] rfl)
    exact hL19 _ 0 _ _ _ (Nat.lt_succ_self _) (by omega) (hM) (lv_sub hl [2, 1, 0] rfl)
  · skip
    refine lv_iconst (v := (-1)) hx hb d_Mo_volume_8 (by decide) ?_
    exact hret _ _ _ _ _ _ _ _ _ d_Mo_volume_9 hM (⟨SP_a (fun _ _ => rfl), by rw [if_neg (by omega)]⟩)
set_option maxHeartbeats 400000 in
set_option maxRecDepth 100000 in
theorem c_Mo_point (l : Launch) (D : va_G) (cT : Nat → ClassId) (ad : Nat → Nat) (I : Nat → Int32) (J : Nat → Int64) (a : Nat → Nat → Int32) (g : Nat → Nat → Int64) (b : Int32) (i : Int32) (what : Int32) (nbo : Nat) (T : Nat → TX) (hnb : I 0 = nI nbo) (h8 : nbo ≤ 8) (hT : ∀ q, q < nbo → BDT a q (T q)) : MMi l D cT ad y_Mo_point b_Mo_point 6 (some .int) 6 169 [.int b, .int i, .int what] I J a g (fun r u => SP I a u ∧ (if (0 ≤ b.toInt ∧ b.toInt < (nbo : Int)) ∧ 0 ≤ i.toInt ∧ 0 ≤ what.toInt ∧ what.toInt ≤ 2 then ((∃ k, k < 3375 ∧ vw (T b.toInt.toNat) k = true ∧ cn (vw (T b.toInt.toNat)) k = i.toInt.toNat ∧ r = iI (if what.toInt = 0 then (↑(k % 15) : Int) - 7 else if what.toInt = 1 then (↑(k / 15 % 15) : Int) - 7 else (↑(k / 225) : Int) - 7)) ∨ (cn (vw (T b.toInt.toNat)) 3375 ≤ i.toInt.toNat ∧ r = -100)) else r = -100)) := by
  refine mo_enti (by decide) rfl (Nat.le_of_ble_eq_true rfl) ?_
  intro p e s m args below meth c Q hC hK hM hret ls hl
  have hx := hC.1
  have hb := hC.2.1
  replace hl : lv_has ls 6 [(0, .ref (ad 46)), (1, .int b), (2, .int i), (3, .int what)] := hl
  refine lv_aload_n hx hb d_Mo_point_0 rfl (lv_at hl 0 rfl) ?_
  refine lv_iload_n hx hb d_Mo_point_1 rfl (lv_at hl 1 rfl) ?_
  refine mo_callr (np := 1) hC hK hM (c_Mo_is l D cT ad I J a g b nbo hnb h8) rfl ⟨wl_Mo_204, wi_Mo_is, ws_Mo_is, wc_Mo_is, wn_Mo⟩ ⟨by decide, by decide, by decide +kernel⟩ ⟨Nat.le_of_ble_eq_true rfl, Nat.le_of_ble_eq_true rfl⟩ hl.1 rfl (rest := []) rfl (Nat.le_of_ble_eq_true rfl) ⟨Nat.zero_le _, Nat.zero_le _⟩ d_Mo_point_2 (fun rr hrr => ?_)
  subst hrr
  refine bz_eq (tgt := 24) hx hb d_Mo_point_5 (by decide) (fun h1 => ?_) (fun h1 => ?_)
  · skip
    refine lv_bipush (v := (-100)) hx hb d_Mo_point_24 (by decide) ?_
    exact hret _ _ _ _ _ _ _ _ _ d_Mo_point_26 hM (⟨SP_a (fun _ _ => rfl), by rw [if_neg (by omega)]⟩)
  · skip
    refine lv_iload_n hx hb d_Mo_point_8 rfl (lv_at hl 2 rfl) ?_
    refine yz_lt hx hb i.toInt (rfl) d_Mo_point_9 (tgt := 24) (by decide) (fun h2 => ?_) (fun h2 => ?_)
    · skip
      refine lv_bipush (v := (-100)) hx hb d_Mo_point_24 (by decide) ?_
      exact hret _ _ _ _ _ _ _ _ _ d_Mo_point_26 hM (⟨SP_a (fun _ _ => rfl), by rw [if_neg (by omega)]⟩)
    · skip
      refine lv_iload_n hx hb d_Mo_point_12 rfl (lv_at hl 3 rfl) ?_
      refine lv_i2l (v := iL what.toInt) hx hb d_Mo_point_13 (x_l _) ?_
      refine lv_lconst (v := 0) hx hb d_Mo_point_14 (by decide) ?_
      refine lv_ldc2 (v := 2) hx hb hC.2.2.2.1 (hC.2.2.2.2 _ wx_Mo_153) d_Mo_point_15 ?_
      refine st_calli (np := 3) hC (c_Mo_in l (iL (what.toInt)) 0 2 what.toInt 0 2 (iL_tx what) rfl rfl) ⟨wl_Mo_91, wt_Mo_in, wc_Mo_in, wn_Mo⟩ ⟨by decide, by decide, by decide +kernel⟩ ⟨Nat.le_of_ble_eq_true rfl, Nat.le_of_ble_eq_true rfl⟩ hl.1 rfl (rest := []) rfl (Nat.le_of_ble_eq_true rfl) ⟨Nat.zero_le _, Nat.zero_le _⟩ d_Mo_point_18 (fun rr hrr => ?_)
      subst hrr
      refine bz_ne (tgt := 27) hx hb d_Mo_point_21 (by decide) (fun h3 => ?_) (fun h3 => ?_)
      · skip
        obtain ⟨q, hq, rfl, hqt⟩ := ex_nI (n := 7) (x := b) (by omega) (by omega)
        have hqn : q < nbo := by omega
        obtain ⟨j, hj, rfl, hjt⟩ := ex_nI0 (x := i) (by omega)
        refine lv_aload_n hx hb d_Mo_point_27 rfl (lv_at hl 0 rfl) ?_
        refine lv_iload_n hx hb d_Mo_point_28 rfl (lv_at hl 1 rfl) ?_
        refine mo_callv (np := 1) hC hK hM (c_Mo_ask l D cT ad I J a g q (T q) (by omega) (hT q (by omega))) rfl ⟨wl_Mo_263, wi_Mo_ask, ws_Mo_ask, wc_Mo_ask, wn_Mo⟩ ⟨by decide, by decide, by decide +kernel⟩ ⟨Nat.le_of_ble_eq_true rfl, Nat.le_of_ble_eq_true rfl⟩ hl.1 rfl (rest := []) rfl (Nat.le_of_ble_eq_true rfl) ⟨Nat.zero_le _, Nat.zero_le _⟩ d_Mo_point_29 (fun I4 J4 a4 g4 H locs hp4 hM => ?_)
        obtain ⟨hI_p4, hA_p4⟩ := hp4
        replace hI_p4 : I4 = I := hI_p4
        replace hA_p4 : a4 = va_up a 33 (pt (a 33) (wi (T q)) 0 3375) := hA_p4
        rw [hI_p4, hA_p4] at hM
        refine lv_iload_n hx hb d_Mo_point_32 rfl (lv_at hl 2 rfl) ?_
        refine lv_istore (lv' := [(4, .int (nI j)), (0, .ref (ad 46)), (1, .int (nI q)), (2, .int (nI j)), (3, .int what)]) hx hb d_Mo_point_33 hl (by decide) rfl (fun ls hl => ?_)
        refine lv_iconst (v := 0) hx hb d_Mo_point_35 (by decide) ?_
        refine lv_istore (lv' := [(5, .int 0), (4, .int (nI j)), (0, .ref (ad 46)), (1, .int (nI q)), (2, .int (nI j)), (3, .int what)]) hx hb d_Mo_point_36 hl (by decide) rfl (fun ls hl => ?_)
        have hL38 : ∀ (nn : Nat) (k : Nat) (lf : Nat) (H : Heap) (locs : List Loc) (ls : Array Slot), 3375 - k < nn → (k ≤ 3375) → (cn (vw (T q)) k + lf = j) → MO D cT ad I J4 (va_up a 33 (pt (a 33) (wi (T q)) 0 3375)) g4 s.heap H locs → lv_has ls 6 [(0, .ref (ad 46)), (3, .int what), (4, .int (nI lf)), (5, .int (nI k))] → W p l e (rmOf 6 169) s m args below meth c H locs 0 0 Q (F0 m 38 ls []) := by
          intro nn
          induction nn with
          | zero =>
            intro k lf H locs ls hmeas38 hk hlf hM hl
            exact absurd hmeas38 (Nat.not_lt_zero _)
          | succ nn ih38 =>
            intro k lf H locs ls hmeas38 hk hlf hM hl
            refine lv_iload hx hb d_Mo_point_38 (lv_at hl 3 rfl) ?_
            refine lv_sipush (v := 3375) hx hb d_Mo_point_40 (by decide) ?_
            refine nc_ge hx hb k 3375 (by omega) (by omega) d_Mo_point_43 (tgt := 108) (by decide) (fun h5 => ?_) (fun h5 => ?_)
            · skip
              refine lv_bipush (v := (-100)) hx hb d_Mo_point_108 (by decide) ?_
              refine hret _ _ _ _ _ _ _ _ _ d_Mo_point_110 hM ?_
              refine ⟨SP_33, ?_⟩
              rw [if_pos (by omega), hqt, hjt]
              obtain rfl : k = 3375 := by omega
              exact Or.inr ⟨by simp only [Int.toNat_natCast]; omega, rfl⟩
            · skip
              refine lv_aload_n hx hb d_Mo_point_46 rfl (lv_at hl 0 rfl) ?_
              refine mo_getr hC hK hM 33 wf_Mo_59 rfl (by decide) (by decide) d_Mo_point_47 ?_
              refine lv_iload hx hb d_Mo_point_50 (lv_at hl 3 rfl) ?_
              refine mo_zaldN hC hK hM 33 k (by decide) rfl (n := 3375) rfl (by decide) (i := nI k) (rfl) (by omega) (v := bI (vw (T q) k = true)) (ask_at _ (by omega)) d_Mo_point_52 ?_
              refine bz_eq (tgt := 102) hx hb d_Mo_point_53 (by decide) (fun h6 => ?_) (fun h6 => ?_)
              · skip
                refine lv_iinc (v := nI (k + 1)) (lv' := [(5, .int (nI (k + 1))), (0, .ref (ad 46)), (3, .int what), (4, .int (nI lf))]) hx hb d_Mo_point_102 hl (k := 3) rfl (nI_add k 1) (by decide) rfl (fun ls hl => ?_)
                refine lv_goto (tgt := 38) hx hb d_Mo_point_105 (by decide) ?_
                exact ih38 (k + 1) lf _ _ _ (by omega) (by omega) (by unfold cn; rw [if_neg h6]; omega) (hM) (lv_sub hl [1, 2, 3, 0] rfl)
              · skip
                refine lv_iload hx hb d_Mo_point_56 (lv_at hl 2 rfl) ?_
                refine nz_ne hx hb lf (by omega) d_Mo_point_58 (tgt := 99) (by decide) (fun h7 => ?_) (fun h7 => ?_)
                · skip
                  refine lv_iinc (v := iI ((↑lf : Int) + (-1))) (lv' := [(4, .int (iI ((↑lf : Int) + (-1)))), (0, .ref (ad 46)), (3, .int what), (5, .int (nI k))]) hx hb d_Mo_point_99 hl (k := 2) rfl (iI_add (↑lf : Int) (-1)) (by decide) rfl (fun ls hl => ?_)
                  refine lv_iinc (v := nI (k + 1)) (lv' := [(5, .int (nI (k + 1))), (4, .int (iI ((↑lf : Int) + (-1)))), (0, .ref (ad 46)), (3, .int what)]) hx hb d_Mo_point_102 hl (k := 3) rfl (nI_add k 1) (by decide) rfl (fun ls hl => ?_)
                  refine lv_goto (tgt := 38) hx hb d_Mo_point_105 (by decide) ?_
                  exact ih38 (k + 1) (lf - 1) _ _ _ (by omega) (by omega) (by unfold cn; rw [if_pos h6]; omega) (hM) (by rw [show nI (lf - 1) = iI ((↑lf : Int) + (-1)) from (iI_nI (by omega)).symm]; exact lv_sub hl [2, 3, 1, 0] rfl)
                · skip
                  refine lv_iload_n hx hb d_Mo_point_61 rfl (lv_at hl 1 rfl) ?_
                  refine yz_ne hx hb what.toInt (rfl) d_Mo_point_62 (tgt := 73) (by decide) (fun h8 => ?_) (fun h8 => ?_)
                  · skip
                    refine lv_iload_n hx hb d_Mo_point_73 rfl (lv_at hl 1 rfl) ?_
                    refine lv_iconst (v := 1) hx hb d_Mo_point_74 (by decide) ?_
                    refine yc_ne hx hb what.toInt 1 (rfl) (rfl) d_Mo_point_75 (tgt := 89) (by decide) (fun h9 => ?_) (fun h9 => ?_)
                    · skip
                      refine lv_iload hx hb d_Mo_point_89 (lv_at hl 3 rfl) ?_
                      refine lv_sipush (v := 225) hx hb d_Mo_point_91 (by decide) ?_
                      refine idivN hx hb k 225 (by omega) (by decide) (by decide) d_Mo_point_94 ?_
                      refine lv_bipush (v := 7) hx hb d_Mo_point_95 (by decide) ?_
                      refine lv_isub hx hb d_Mo_point_97 ?_
                      refine topi_eq (iI_sub (↑(k / 225) : Int) 7) ?_
                      refine hret _ _ _ _ _ _ _ _ _ d_Mo_point_98 hM ?_
                      refine ⟨SP_33, ?_⟩
                      rw [if_pos (by omega), hqt, hjt]
                      simp only [Int.toNat_natCast]
                      exact Or.inl ⟨k, by omega, by assumption, by omega, by simp only [if_neg h8, if_neg h9]⟩
                    · skip
                      refine lv_iload hx hb d_Mo_point_78 (lv_at hl 3 rfl) ?_
                      refine lv_bipush (v := 15) hx hb d_Mo_point_80 (by decide) ?_
                      refine idivN hx hb k 15 (by omega) (by decide) (by decide) d_Mo_point_82 ?_
                      refine lv_bipush (v := 15) hx hb d_Mo_point_83 (by decide) ?_
                      refine iremN hx hb (k / 15) 15 (by omega) (by decide) (by decide) d_Mo_point_85 ?_
                      refine lv_goto (tgt := 95) hx hb d_Mo_point_86 (by decide) ?_
                      refine lv_bipush (v := 7) hx hb d_Mo_point_95 (by decide) ?_
                      refine lv_isub hx hb d_Mo_point_97 ?_
                      refine topi_eq (iI_sub (↑((k / 15) % 15) : Int) 7) ?_
                      refine hret _ _ _ _ _ _ _ _ _ d_Mo_point_98 hM ?_
                      refine ⟨SP_33, ?_⟩
                      rw [if_pos (by omega), hqt, hjt]
                      simp only [Int.toNat_natCast]
                      exact Or.inl ⟨k, by omega, by assumption, by omega, by simp only [if_neg h8, if_pos h9]⟩
                  · skip
                    refine lv_iload hx hb d_Mo_point_65 (lv_at hl 3 rfl) ?_
                    refine lv_bipush (v := 15) hx hb d_Mo_point_67 (by decide) ?_
                    refine iremN hx hb k 15 (by omega) (by decide) (by decide) d_Mo_point_69 ?_
                    refine lv_goto (tgt := 95) hx hb d_Mo_point_70 (by decide) ?_
                    refine lv_bipush (v := 7) hx hb d_Mo_point_95 (by decide) ?_
                    refine lv_isub hx hb d_Mo_point_97 ?_
                    refine topi_eq (iI_sub (↑(k % 15) : Int) 7) ?_
                    refine hret _ _ _ _ _ _ _ _ _ d_Mo_point_98 hM ?_
                    refine ⟨SP_33, ?_⟩
                    rw [if_pos (by omega), hqt, hjt]
                    simp only [Int.toNat_natCast]
                    exact Or.inl ⟨k, by omega, by assumption, by omega, by simp only [if_pos h8]⟩
        exact hL38 _ 0 j _ _ _ (Nat.lt_succ_self _) (by omega) (by unfold cn; omega) (hM) (lv_sub hl [2, 5, 1, 0] rfl)
      · skip
        refine lv_bipush (v := (-100)) hx hb d_Mo_point_24 (by decide) ?_
        exact hret _ _ _ _ _ _ _ _ _ d_Mo_point_26 hM (⟨SP_a (fun _ _ => rfl), by rw [if_neg (by omega)]⟩)
set_option maxHeartbeats 400000 in
set_option maxRecDepth 100000 in
theorem c_Mo_thin (l : Launch) (D : va_G) (cT : Nat → ClassId) (ad : Nat → Nat) (I : Nat → Int32) (J : Nat → Int64) (a : Nat → Nat → Int32) (g : Nat → Nat → Int64) (b : Int32) (way : Int32) (nbo : Nat) (T : Nat → TX) (hnb : I 0 = nI nbo) (h8 : nbo ≤ 8) (hT : ∀ q, q < nbo → BDT a q (T q)) : MMi l D cT ad y_Mo_thin b_Mo_thin 5 (some .int) 6 169 [.int b, .int way] I J a g (fun r u => SP I a u ∧ r = if (0 ≤ b.toInt ∧ b.toInt < (nbo : Int)) ∧ 0 ≤ way.toInt ∧ way.toInt ≤ 2 then nI (cn (fun k => vw (T b.toInt.toNat) k && !hsd (T b.toInt.toNat) k (2 * way.toInt.toNat) && !hsd (T b.toInt.toNat) k (2 * way.toInt.toNat + 1)) 3375) else -1) := by
  refine mo_enti (by decide) rfl (Nat.le_of_ble_eq_true rfl) ?_
  intro p e s m args below meth c Q hC hK hM hret ls hl
  have hx := hC.1
  have hb := hC.2.1
  replace hl : lv_has ls 5 [(0, .ref (ad 46)), (1, .int b), (2, .int way)] := hl
  refine lv_aload_n hx hb d_Mo_thin_0 rfl (lv_at hl 0 rfl) ?_
  refine lv_iload_n hx hb d_Mo_thin_1 rfl (lv_at hl 1 rfl) ?_
  refine mo_callr (np := 1) hC hK hM (c_Mo_is l D cT ad I J a g b nbo hnb h8) rfl ⟨wl_Mo_204, wi_Mo_is, ws_Mo_is, wc_Mo_is, wn_Mo⟩ ⟨by decide, by decide, by decide +kernel⟩ ⟨Nat.le_of_ble_eq_true rfl, Nat.le_of_ble_eq_true rfl⟩ hl.1 rfl (rest := []) rfl (Nat.le_of_ble_eq_true rfl) ⟨Nat.zero_le _, Nat.zero_le _⟩ d_Mo_thin_2 (fun rr hrr => ?_)
  subst hrr
  refine bz_eq (tgt := 20) hx hb d_Mo_thin_5 (by decide) (fun h1 => ?_) (fun h1 => ?_)
  · skip
    refine lv_iconst (v := (-1)) hx hb d_Mo_thin_20 (by decide) ?_
    exact hret _ _ _ _ _ _ _ _ _ d_Mo_thin_21 hM (⟨SP_a (fun _ _ => rfl), by rw [if_neg (by omega)]⟩)
  · skip
    refine lv_iload_n hx hb d_Mo_thin_8 rfl (lv_at hl 2 rfl) ?_
    refine lv_i2l (v := iL way.toInt) hx hb d_Mo_thin_9 (x_l _) ?_
    refine lv_lconst (v := 0) hx hb d_Mo_thin_10 (by decide) ?_
    refine lv_ldc2 (v := 2) hx hb hC.2.2.2.1 (hC.2.2.2.2 _ wx_Mo_153) d_Mo_thin_11 ?_
    refine st_calli (np := 3) hC (c_Mo_in l (iL (way.toInt)) 0 2 way.toInt 0 2 (iL_tx way) rfl rfl) ⟨wl_Mo_91, wt_Mo_in, wc_Mo_in, wn_Mo⟩ ⟨by decide, by decide, by decide +kernel⟩ ⟨Nat.le_of_ble_eq_true rfl, Nat.le_of_ble_eq_true rfl⟩ hl.1 rfl (rest := []) rfl (Nat.le_of_ble_eq_true rfl) ⟨Nat.zero_le _, Nat.zero_le _⟩ d_Mo_thin_14 (fun rr hrr => ?_)
    subst hrr
    refine bz_ne (tgt := 22) hx hb d_Mo_thin_17 (by decide) (fun h2 => ?_) (fun h2 => ?_)
    · skip
      obtain ⟨q, hq, rfl, hqt⟩ := ex_nI (n := 7) (x := b) (by omega) (by omega)
      have hqn : q < nbo := by omega
      obtain ⟨w, hw, rfl, hwt⟩ := ex_nI (x := way) (n := 2) (by omega) (by omega)
      refine lv_aload_n hx hb d_Mo_thin_22 rfl (lv_at hl 0 rfl) ?_
      refine lv_iload_n hx hb d_Mo_thin_23 rfl (lv_at hl 1 rfl) ?_
      refine mo_callv (np := 1) hC hK hM (c_Mo_ask l D cT ad I J a g q (T q) (by omega) (hT q (by omega))) rfl ⟨wl_Mo_263, wi_Mo_ask, ws_Mo_ask, wc_Mo_ask, wn_Mo⟩ ⟨by decide, by decide, by decide +kernel⟩ ⟨Nat.le_of_ble_eq_true rfl, Nat.le_of_ble_eq_true rfl⟩ hl.1 rfl (rest := []) rfl (Nat.le_of_ble_eq_true rfl) ⟨Nat.zero_le _, Nat.zero_le _⟩ d_Mo_thin_24 (fun I3 J3 a3 g3 H locs hp3 hM => ?_)
      obtain ⟨hI_p3, hA_p3⟩ := hp3
      replace hI_p3 : I3 = I := hI_p3
      replace hA_p3 : a3 = va_up a 33 (pt (a 33) (wi (T q)) 0 3375) := hA_p3
      rw [hI_p3, hA_p3] at hM
      refine lv_iconst (v := 0) hx hb d_Mo_thin_27 (by decide) ?_
      refine lv_istore_n (lv' := [(3, .int 0), (0, .ref (ad 46)), (1, .int (nI q)), (2, .int (nI w))]) hx hb d_Mo_thin_28 rfl hl (by decide) rfl (fun ls hl => ?_)
      refine lv_iconst (v := 0) hx hb d_Mo_thin_29 (by decide) ?_
      refine lv_istore (lv' := [(4, .int 0), (3, .int 0), (0, .ref (ad 46)), (1, .int (nI q)), (2, .int (nI w))]) hx hb d_Mo_thin_30 hl (by decide) rfl (fun ls hl => ?_)
      have hL32 : ∀ (nn : Nat) (k : Nat) (H : Heap) (locs : List Loc) (ls : Array Slot), 3375 - k < nn → (k ≤ 3375) → MO D cT ad I J3 (va_up a 33 (pt (a 33) (wi (T q)) 0 3375)) g3 s.heap H locs → lv_has ls 5 [(0, .ref (ad 46)), (2, .int (nI w)), (3, .int (nI (cn (fun k => vw (T q) k && !hsd (T q) k (2 * w) && !hsd (T q) k (2 * w + 1)) k))), (4, .int (nI k))] → W p l e (rmOf 6 169) s m args below meth c H locs 0 0 Q (F0 m 32 ls []) := by
        intro nn
        induction nn with
        | zero =>
          intro k H locs ls hmeas32 hk hM hl
          exact absurd hmeas32 (Nat.not_lt_zero _)
        | succ nn ih32 =>
          intro k H locs ls hmeas32 hk hM hl
          refine lv_iload hx hb d_Mo_thin_32 (lv_at hl 3 rfl) ?_
          refine lv_sipush (v := 3375) hx hb d_Mo_thin_34 (by decide) ?_
          refine nc_ge hx hb k 3375 (by omega) (by omega) d_Mo_thin_37 (tgt := 90) (by decide) (fun h4 => ?_) (fun h4 => ?_)
          · skip
            refine lv_iload_n hx hb d_Mo_thin_90 rfl (lv_at hl 2 rfl) ?_
            refine hret _ _ _ _ _ _ _ _ _ d_Mo_thin_91 hM ?_
            obtain rfl : k = 3375 := by omega
            refine ⟨SP_33, ?_⟩
            rw [if_pos (by omega), hqt, hwt]
            rfl
          · skip
            refine lv_iload_n hx hb d_Mo_thin_40 rfl (lv_at hl 2 rfl) ?_
            refine lv_aload_n hx hb d_Mo_thin_41 rfl (lv_at hl 0 rfl) ?_
            refine mo_getr hC hK hM 33 wf_Mo_59 rfl (by decide) (by decide) d_Mo_thin_42 ?_
            refine lv_iload hx hb d_Mo_thin_45 (lv_at hl 3 rfl) ?_
            refine mo_zaldN hC hK hM 33 k (by decide) rfl (n := 3375) rfl (by decide) (i := nI k) (rfl) (by omega) (v := bI (vw (T q) k = true)) (ask_at _ (by omega)) d_Mo_thin_47 ?_
            have hJ5 : ∀ (H : Heap) (locs : List Loc) (ls : Array Slot), MO D cT ad I J3 (va_up a 33 (pt (a 33) (wi (T q)) 0 3375)) g3 s.heap H locs → lv_has ls 5 [(0, .ref (ad 46)), (2, .int (nI w)), (3, .int (nI (cn (fun k => vw (T q) k && !hsd (T q) k (2 * w) && !hsd (T q) k (2 * w + 1)) k))), (4, .int (nI k))] → W p l e (rmOf 6 169) s m args below meth c H locs 0 0 Q (F0 m 82 ls [.int (nI (if vw (T q) k = true then if hsd (T q) k (2 * w) = true then 0 else if hsd (T q) k ((2 * w) + 1) = true then 0 else 1 else 0)), .int (nI (cn (fun k => vw (T q) k && !hsd (T q) k (2 * w) && !hsd (T q) k (2 * w + 1)) k))]) := ?_
            · skip
              refine bz_eq (tgt := 81) hx hb d_Mo_thin_48 (by decide) (fun h6 => ?_) (fun h6 => ?_)
              · skip
                refine lv_iconst (v := 0) hx hb d_Mo_thin_81 (by decide) ?_
                refine topi_eq (show (0 : Int32) = nI (if vw (T q) k = true then if hsd (T q) k (2 * w) = true then 0 else if hsd (T q) k ((2 * w) + 1) = true then 0 else 1 else 0) by first | rfl | exact (bI_t (by assumption)).symm | exact (bI_f (by assumption)).symm | exact (bI_f (fun z => z (by assumption))).symm | (rw [if_neg h6]; done) | (rw [if_neg h6]; rfl) | (simp only [if_neg h6]; done) | (simp only [if_neg h6]; rfl)) ?_
                exact hJ5 _ _ _ (by first | exact hM | (simp only [if_neg h6]; exact hM)) (by first | exact lv_sub hl [0, 1, 2, 3] rfl | (simp only [if_neg h6]; exact lv_sub hl [0, 1, 2, 3] rfl))
              · skip
                refine lv_aload_n hx hb d_Mo_thin_51 rfl (lv_at hl 0 rfl) ?_
                refine lv_iload hx hb d_Mo_thin_52 (lv_at hl 3 rfl) ?_
                refine lv_iconst (v := 2) hx hb d_Mo_thin_54 (by decide) ?_
                refine lv_iload_n hx hb d_Mo_thin_55 rfl (lv_at hl 1 rfl) ?_
                refine lv_imul hx hb d_Mo_thin_56 ?_
                refine topi_eq (pk_mul 2 w) ?_
                refine mo_callr (np := 2) hC hK hM (c_Mo_hasSide l D cT ad I J3 (va_up a 33 (pt (a 33) (wi (T q)) 0 3375)) g3 k (2 * w) ask_01 (by omega) (by omega)) rfl ⟨wl_Mo_268, wi_Mo_hasSide, ws_Mo_hasSide, wc_Mo_hasSide, wn_Mo⟩ ⟨by decide, by decide, by decide +kernel⟩ ⟨Nat.le_of_ble_eq_true rfl, Nat.le_of_ble_eq_true rfl⟩ hl.1 rfl (rest := [.int (nI (cn (fun k => vw (T q) k && !hsd (T q) k (2 * w) && !hsd (T q) k (2 * w + 1)) k))]) rfl (Nat.le_of_ble_eq_true rfl) ⟨Nat.zero_le _, Nat.zero_le _⟩ d_Mo_thin_57 (fun rr hrr => ?_)
                replace hrr : rr = bI (hsd (T q) k (2 * w) = true) := hrr.trans (bI_c (hsd_c ask_at))
                subst hrr
                refine bz_ne (tgt := 81) hx hb d_Mo_thin_60 (by decide) (fun h7 => ?_) (fun h7 => ?_)
                · skip
                  refine lv_iconst (v := 0) hx hb d_Mo_thin_81 (by decide) ?_
                  refine topi_eq (show (0 : Int32) = nI (if vw (T q) k = true then if hsd (T q) k (2 * w) = true then 0 else if hsd (T q) k ((2 * w) + 1) = true then 0 else 1 else 0) by first | rfl | exact (bI_t (by assumption)).symm | exact (bI_f (by assumption)).symm | exact (bI_f (fun z => z (by assumption))).symm | (rw [if_pos h6, if_pos h7]; done) | (rw [if_pos h6, if_pos h7]; rfl) | (simp only [if_pos h6, if_pos h7]; done) | (simp only [if_pos h6, if_pos h7]; rfl)) ?_
                  exact hJ5 _ _ _ (by first | exact hM | (simp only [if_pos h6, if_pos h7]; exact hM)) (by first | exact lv_sub hl [0, 1, 2, 3] rfl | (simp only [if_pos h6, if_pos h7]; exact lv_sub hl [0, 1, 2, 3] rfl))
                · skip
                  refine lv_aload_n hx hb d_Mo_thin_63 rfl (lv_at hl 0 rfl) ?_
                  refine lv_iload hx hb d_Mo_thin_64 (lv_at hl 3 rfl) ?_
                  refine lv_iconst (v := 2) hx hb d_Mo_thin_66 (by decide) ?_
                  refine lv_iload_n hx hb d_Mo_thin_67 rfl (lv_at hl 1 rfl) ?_
                  refine lv_imul hx hb d_Mo_thin_68 ?_
                  refine topi_eq (pk_mul 2 w) ?_
                  refine lv_iconst (v := 1) hx hb d_Mo_thin_69 (by decide) ?_
                  refine lv_iadd hx hb d_Mo_thin_70 ?_
                  refine topi_eq (nI_add (2 * w) 1) ?_
                  refine mo_callr (np := 2) hC hK hM (c_Mo_hasSide l D cT ad I J3 (va_up a 33 (pt (a 33) (wi (T q)) 0 3375)) g3 k ((2 * w) + 1) ask_01 (by omega) (by omega)) rfl ⟨wl_Mo_268, wi_Mo_hasSide, ws_Mo_hasSide, wc_Mo_hasSide, wn_Mo⟩ ⟨by decide, by decide, by decide +kernel⟩ ⟨Nat.le_of_ble_eq_true rfl, Nat.le_of_ble_eq_true rfl⟩ hl.1 rfl (rest := [.int (nI (cn (fun k => vw (T q) k && !hsd (T q) k (2 * w) && !hsd (T q) k (2 * w + 1)) k))]) rfl (Nat.le_of_ble_eq_true rfl) ⟨Nat.zero_le _, Nat.zero_le _⟩ d_Mo_thin_71 (fun rr hrr => ?_)
                  replace hrr : rr = bI (hsd (T q) k ((2 * w) + 1) = true) := hrr.trans (bI_c (hsd_c ask_at))
                  subst hrr
                  refine bz_ne (tgt := 81) hx hb d_Mo_thin_74 (by decide) (fun h8 => ?_) (fun h8 => ?_)
                  · skip
                    refine lv_iconst (v := 0) hx hb d_Mo_thin_81 (by decide) ?_
                    refine topi_eq (show (0 : Int32) = nI (if vw (T q) k = true then if hsd (T q) k (2 * w) = true then 0 else if hsd (T q) k ((2 * w) + 1) = true then 0 else 1 else 0) by first | rfl | exact (bI_t (by assumption)).symm | exact (bI_f (by assumption)).symm | exact (bI_f (fun z => z (by assumption))).symm | (rw [if_pos h6, if_neg h7, if_pos h8]; done) | (rw [if_pos h6, if_neg h7, if_pos h8]; rfl) | (simp only [if_pos h6, if_neg h7, if_pos h8]; done) | (simp only [if_pos h6, if_neg h7, if_pos h8]; rfl)) ?_
                    exact hJ5 _ _ _ (by first | exact hM | (simp only [if_pos h6, if_neg h7, if_pos h8]; exact hM)) (by first | exact lv_sub hl [0, 1, 2, 3] rfl | (simp only [if_pos h6, if_neg h7, if_pos h8]; exact lv_sub hl [0, 1, 2, 3] rfl))
                  · skip
                    refine lv_iconst (v := 1) hx hb d_Mo_thin_77 (by decide) ?_
                    refine lv_goto (tgt := 82) hx hb d_Mo_thin_78 (by decide) ?_
                    refine topi_eq (show (1 : Int32) = nI (if vw (T q) k = true then if hsd (T q) k (2 * w) = true then 0 else if hsd (T q) k ((2 * w) + 1) = true then 0 else 1 else 0) by first | rfl | exact (bI_t (by assumption)).symm | exact (bI_f (by assumption)).symm | exact (bI_f (fun z => z (by assumption))).symm | (rw [if_pos h6, if_neg h7, if_neg h8]; done) | (rw [if_pos h6, if_neg h7, if_neg h8]; rfl) | (simp only [if_pos h6, if_neg h7, if_neg h8]; done) | (simp only [if_pos h6, if_neg h7, if_neg h8]; rfl)) ?_
                    exact hJ5 _ _ _ (by first | exact hM | (simp only [if_pos h6, if_neg h7, if_neg h8]; exact hM)) (by first | exact lv_sub hl [0, 1, 2, 3] rfl | (simp only [if_pos h6, if_neg h7, if_neg h8]; exact lv_sub hl [0, 1, 2, 3] rfl))
            intro H locs ls hM hl
            refine lv_iadd hx hb d_Mo_thin_82 ?_
            refine topi_eq (nI_add (cn (fun k => vw (T q) k && !hsd (T q) k (2 * w) && !hsd (T q) k (2 * w + 1)) k) (if vw (T q) k = true then if hsd (T q) k (2 * w) = true then 0 else if hsd (T q) k ((2 * w) + 1) = true then 0 else 1 else 0)) ?_
            refine lv_istore_n (lv' := [(3, .int (nI ((cn (fun k => vw (T q) k && !hsd (T q) k (2 * w) && !hsd (T q) k (2 * w + 1)) k) + (if vw (T q) k = true then if hsd (T q) k (2 * w) = true then 0 else if hsd (T q) k ((2 * w) + 1) = true then 0 else 1 else 0)))), (0, .ref (ad 46)), (2, .int (nI w)), (4, .int (nI k))]) hx hb d_Mo_thin_83 rfl hl (by decide) rfl (fun ls hl => ?_)
            refine lv_iinc (v := nI (k + 1)) (lv' := [(4, .int (nI (k + 1))), (3, .int (nI ((cn (fun k => vw (T q) k && !hsd (T q) k (2 * w) && !hsd (T q) k (2 * w + 1)) k) + (if vw (T q) k = true then if hsd (T q) k (2 * w) = true then 0 else if hsd (T q) k ((2 * w) + 1) = true then 0 else 1 else 0)))), (0, .ref (ad 46)), (2, .int (nI w))]) hx hb d_Mo_thin_84 hl (k := 3) rfl (nI_add k 1) (by decide) rfl (fun ls hl => ?_)
            refine lv_goto (tgt := 32) hx hb d_Mo_thin_87 (by decide) ?_
            exact ih32 (k + 1) _ _ _ (by omega) (by omega) (hM) (by rw [show cn (fun k => vw (T q) k && !hsd (T q) k (2 * w) && !hsd (T q) k (2 * w + 1)) (k + 1) = (cn (fun k => vw (T q) k && !hsd (T q) k (2 * w) && !hsd (T q) k (2 * w + 1)) k) + (if vw (T q) k = true then if hsd (T q) k (2 * w) = true then 0 else if hsd (T q) k ((2 * w) + 1) = true then 0 else 1 else 0) from congrArg _ (and3 _ _ _)]; exact lv_sub hl [2, 3, 1, 0] rfl)
      exact hL32 _ 0 _ _ _ (Nat.lt_succ_self _) (by omega) (hM) (lv_sub hl [2, 4, 1, 0] rfl)
    · skip
      refine lv_iconst (v := (-1)) hx hb d_Mo_thin_20 (by decide) ?_
      exact hret _ _ _ _ _ _ _ _ _ d_Mo_thin_21 hM (⟨SP_a (fun _ _ => rfl), by rw [if_neg (by omega)]⟩)
set_option maxHeartbeats 400000 in
set_option maxRecDepth 100000 in
theorem c_Mo_overhang (l : Launch) (D : va_G) (cT : Nat → ClassId) (ad : Nat → Nat) (I : Nat → Int32) (J : Nat → Int64) (a : Nat → Nat → Int32) (g : Nat → Nat → Int64) (b : Int32) (z : Int32) (nbo : Nat) (T : Nat → TX) (hnb : I 0 = nI nbo) (h8 : nbo ≤ 8) (hT : ∀ q, q < nbo → BDT a q (T q)) : MMi l D cT ad y_Mo_overhang b_Mo_overhang 5 (some .int) 6 169 [.int b, .int z] I J a g (fun r u => SP I a u ∧ r = if (0 ≤ b.toInt ∧ b.toInt < (nbo : Int)) ∧ -7 ≤ z.toInt ∧ z.toInt ≤ 7 then nI (cn (fun k => vw (T b.toInt.toNat) k && (decide (z.toInt < (↑(k / 225) : Int) - 7) && !hsd (T b.toInt.toNat) k 4)) 3375) else -1) := by
  refine mo_enti (by decide) rfl (Nat.le_of_ble_eq_true rfl) ?_
  intro p e s m args below meth c Q hC hK hM hret ls hl
  have hx := hC.1
  have hb := hC.2.1
  replace hl : lv_has ls 5 [(0, .ref (ad 46)), (1, .int b), (2, .int z)] := hl
  refine lv_aload_n hx hb d_Mo_overhang_0 rfl (lv_at hl 0 rfl) ?_
  refine lv_iload_n hx hb d_Mo_overhang_1 rfl (lv_at hl 1 rfl) ?_
  refine mo_callr (np := 1) hC hK hM (c_Mo_is l D cT ad I J a g b nbo hnb h8) rfl ⟨wl_Mo_204, wi_Mo_is, ws_Mo_is, wc_Mo_is, wn_Mo⟩ ⟨by decide, by decide, by decide +kernel⟩ ⟨Nat.le_of_ble_eq_true rfl, Nat.le_of_ble_eq_true rfl⟩ hl.1 rfl (rest := []) rfl (Nat.le_of_ble_eq_true rfl) ⟨Nat.zero_le _, Nat.zero_le _⟩ d_Mo_overhang_2 (fun rr hrr => ?_)
  subst hrr
  refine bz_eq (tgt := 22) hx hb d_Mo_overhang_5 (by decide) (fun h1 => ?_) (fun h1 => ?_)
  · skip
    refine lv_iconst (v := (-1)) hx hb d_Mo_overhang_22 (by decide) ?_
    exact hret _ _ _ _ _ _ _ _ _ d_Mo_overhang_23 hM (⟨SP_a (fun _ _ => rfl), by rw [if_neg (by omega)]⟩)
  · skip
    refine lv_iload_n hx hb d_Mo_overhang_8 rfl (lv_at hl 2 rfl) ?_
    refine lv_i2l (v := iL z.toInt) hx hb d_Mo_overhang_9 (x_l _) ?_
    refine lv_ldc2 (v := (-7)) hx hb hC.2.2.2.1 (hC.2.2.2.2 _ wx_Mo_217) d_Mo_overhang_10 ?_
    refine lv_ldc2 (v := 7) hx hb hC.2.2.2.1 (hC.2.2.2.2 _ wx_Mo_219) d_Mo_overhang_13 ?_
    refine st_calli (np := 3) hC (c_Mo_in l (iL (z.toInt)) (-7) 7 z.toInt (-7) 7 (iL_tx z) rfl rfl) ⟨wl_Mo_91, wt_Mo_in, wc_Mo_in, wn_Mo⟩ ⟨by decide, by decide, by decide +kernel⟩ ⟨Nat.le_of_ble_eq_true rfl, Nat.le_of_ble_eq_true rfl⟩ hl.1 rfl (rest := []) rfl (Nat.le_of_ble_eq_true rfl) ⟨Nat.zero_le _, Nat.zero_le _⟩ d_Mo_overhang_16 (fun rr hrr => ?_)
    subst hrr
    refine bz_ne (tgt := 24) hx hb d_Mo_overhang_19 (by decide) (fun h2 => ?_) (fun h2 => ?_)
    · skip
      obtain ⟨q, hq, rfl, hqt⟩ := ex_nI (n := 7) (x := b) (by omega) (by omega)
      have hqn : q < nbo := by omega
      refine lv_aload_n hx hb d_Mo_overhang_24 rfl (lv_at hl 0 rfl) ?_
      refine lv_iload_n hx hb d_Mo_overhang_25 rfl (lv_at hl 1 rfl) ?_
      refine mo_callv (np := 1) hC hK hM (c_Mo_ask l D cT ad I J a g q (T q) (by omega) (hT q (by omega))) rfl ⟨wl_Mo_263, wi_Mo_ask, ws_Mo_ask, wc_Mo_ask, wn_Mo⟩ ⟨by decide, by decide, by decide +kernel⟩ ⟨Nat.le_of_ble_eq_true rfl, Nat.le_of_ble_eq_true rfl⟩ hl.1 rfl (rest := []) rfl (Nat.le_of_ble_eq_true rfl) ⟨Nat.zero_le _, Nat.zero_le _⟩ d_Mo_overhang_26 (fun I3 J3 a3 g3 H locs hp3 hM => ?_)
      obtain ⟨hI_p3, hA_p3⟩ := hp3
      replace hI_p3 : I3 = I := hI_p3
      replace hA_p3 : a3 = va_up a 33 (pt (a 33) (wi (T q)) 0 3375) := hA_p3
      rw [hI_p3, hA_p3] at hM
      refine lv_iconst (v := 0) hx hb d_Mo_overhang_29 (by decide) ?_
      refine lv_istore_n (lv' := [(3, .int 0), (0, .ref (ad 46)), (1, .int (nI q)), (2, .int z)]) hx hb d_Mo_overhang_30 rfl hl (by decide) rfl (fun ls hl => ?_)
      refine lv_iconst (v := 0) hx hb d_Mo_overhang_31 (by decide) ?_
      refine lv_istore (lv' := [(4, .int 0), (3, .int 0), (0, .ref (ad 46)), (1, .int (nI q)), (2, .int z)]) hx hb d_Mo_overhang_32 hl (by decide) rfl (fun ls hl => ?_)
      have hL34 : ∀ (nn : Nat) (k : Nat) (H : Heap) (locs : List Loc) (ls : Array Slot), 3375 - k < nn → (k ≤ 3375) → MO D cT ad I J3 (va_up a 33 (pt (a 33) (wi (T q)) 0 3375)) g3 s.heap H locs → lv_has ls 5 [(0, .ref (ad 46)), (2, .int z), (3, .int (nI (cn (fun k => vw (T q) k && (decide (z.toInt < (↑(k / 225) : Int) - 7) && !hsd (T q) k 4)) k))), (4, .int (nI k))] → W p l e (rmOf 6 169) s m args below meth c H locs 0 0 Q (F0 m 34 ls []) := by
        intro nn
        induction nn with
        | zero =>
          intro k H locs ls hmeas34 hk hM hl
          exact absurd hmeas34 (Nat.not_lt_zero _)
        | succ nn ih34 =>
          intro k H locs ls hmeas34 hk hM hl
          refine lv_iload hx hb d_Mo_overhang_34 (lv_at hl 3 rfl) ?_
          refine lv_sipush (v := 3375) hx hb d_Mo_overhang_36 (by decide) ?_
          refine nc_ge hx hb k 3375 (by omega) (by omega) d_Mo_overhang_39 (tgt := 89) (by decide) (fun h4 => ?_) (fun h4 => ?_)
          · skip
            refine lv_iload_n hx hb d_Mo_overhang_89 rfl (lv_at hl 2 rfl) ?_
            refine hret _ _ _ _ _ _ _ _ _ d_Mo_overhang_90 hM ?_
            obtain rfl : k = 3375 := by omega
            refine ⟨SP_33, ?_⟩
            rw [if_pos (by omega), hqt]
            rfl
          · skip
            refine lv_iload_n hx hb d_Mo_overhang_42 rfl (lv_at hl 2 rfl) ?_
            refine lv_aload_n hx hb d_Mo_overhang_43 rfl (lv_at hl 0 rfl) ?_
            refine mo_getr hC hK hM 33 wf_Mo_59 rfl (by decide) (by decide) d_Mo_overhang_44 ?_
            refine lv_iload hx hb d_Mo_overhang_47 (lv_at hl 3 rfl) ?_
            refine mo_zaldN hC hK hM 33 k (by decide) rfl (n := 3375) rfl (by decide) (i := nI k) (rfl) (by omega) (v := bI (vw (T q) k = true)) (ask_at _ (by omega)) d_Mo_overhang_49 ?_
            have hJ5 : ∀ (H : Heap) (locs : List Loc) (ls : Array Slot), MO D cT ad I J3 (va_up a 33 (pt (a 33) (wi (T q)) 0 3375)) g3 s.heap H locs → lv_has ls 5 [(0, .ref (ad 46)), (2, .int z), (3, .int (nI (cn (fun k => vw (T q) k && (decide (z.toInt < (↑(k / 225) : Int) - 7) && !hsd (T q) k 4)) k))), (4, .int (nI k))] → W p l e (rmOf 6 169) s m args below meth c H locs 0 0 Q (F0 m 81 ls [.int (nI (if vw (T q) k = true then if z.toInt < ((↑(k / 225) : Int) - 7) then if hsd (T q) k 4 = true then 0 else 1 else 0 else 0)), .int (nI (cn (fun k => vw (T q) k && (decide (z.toInt < (↑(k / 225) : Int) - 7) && !hsd (T q) k 4)) k))]) := ?_
            · skip
              refine bz_eq (tgt := 80) hx hb d_Mo_overhang_50 (by decide) (fun h6 => ?_) (fun h6 => ?_)
              · skip
                refine lv_iconst (v := 0) hx hb d_Mo_overhang_80 (by decide) ?_
                refine topi_eq (show (0 : Int32) = nI (if vw (T q) k = true then if z.toInt < ((↑(k / 225) : Int) - 7) then if hsd (T q) k 4 = true then 0 else 1 else 0 else 0) by first | rfl | exact (bI_t (by assumption)).symm | exact (bI_f (by assumption)).symm | exact (bI_f (fun z => z (by assumption))).symm | (rw [if_neg h6]; done) | (rw [if_neg h6]; rfl) | (simp only [if_neg h6]; done) | (simp only [if_neg h6]; rfl)) ?_
                exact hJ5 _ _ _ (by first | exact hM | (simp only [if_neg h6]; exact hM)) (by first | exact lv_sub hl [0, 1, 2, 3] rfl | (simp only [if_neg h6]; exact lv_sub hl [0, 1, 2, 3] rfl))
              · skip
                refine lv_iload hx hb d_Mo_overhang_53 (lv_at hl 3 rfl) ?_
                refine lv_sipush (v := 225) hx hb d_Mo_overhang_55 (by decide) ?_
                refine idivN hx hb k 225 (by omega) (by decide) (by decide) d_Mo_overhang_58 ?_
                refine lv_bipush (v := 7) hx hb d_Mo_overhang_59 (by decide) ?_
                refine lv_isub hx hb d_Mo_overhang_61 ?_
                refine topi_eq (iI_sub (↑(k / 225) : Int) 7) ?_
                refine lv_iload_n hx hb d_Mo_overhang_62 rfl (lv_at hl 1 rfl) ?_
                refine yc_le hx hb ((↑(k / 225) : Int) - 7) z.toInt (iI_toInt (z := (↑(k / 225) : Int) - 7) (by omega) (by omega)) (rfl) d_Mo_overhang_63 (tgt := 80) (by decide) (fun h7 => ?_) (fun h7 => ?_)
                · skip
                  refine lv_iconst (v := 0) hx hb d_Mo_overhang_80 (by decide) ?_
                  refine topi_eq (show (0 : Int32) = nI (if vw (T q) k = true then if z.toInt < ((↑(k / 225) : Int) - 7) then if hsd (T q) k 4 = true then 0 else 1 else 0 else 0) by first | rfl | exact (bI_t (by assumption)).symm | exact (bI_f (by assumption)).symm | exact (bI_f (fun z => z (by assumption))).symm | (rw [if_pos h6, if_neg h7]; done) | (rw [if_pos h6, if_neg h7]; rfl) | (simp only [if_pos h6, if_neg h7]; done) | (simp only [if_pos h6, if_neg h7]; rfl)) ?_
                  exact hJ5 _ _ _ (by first | exact hM | (simp only [if_pos h6, if_neg h7]; exact hM)) (by first | exact lv_sub hl [0, 1, 2, 3] rfl | (simp only [if_pos h6, if_neg h7]; exact lv_sub hl [0, 1, 2, 3] rfl))
                · skip
                  refine lv_aload_n hx hb d_Mo_overhang_66 rfl (lv_at hl 0 rfl) ?_
                  refine lv_iload hx hb d_Mo_overhang_67 (lv_at hl 3 rfl) ?_
                  refine lv_iconst (v := 4) hx hb d_Mo_overhang_69 (by decide) ?_
                  refine mo_callr (np := 2) hC hK hM (c_Mo_hasSide l D cT ad I J3 (va_up a 33 (pt (a 33) (wi (T q)) 0 3375)) g3 k 4 ask_01 (by omega) (by omega)) rfl ⟨wl_Mo_268, wi_Mo_hasSide, ws_Mo_hasSide, wc_Mo_hasSide, wn_Mo⟩ ⟨by decide, by decide, by decide +kernel⟩ ⟨Nat.le_of_ble_eq_true rfl, Nat.le_of_ble_eq_true rfl⟩ hl.1 rfl (rest := [.int (nI (cn (fun k => vw (T q) k && (decide (z.toInt < (↑(k / 225) : Int) - 7) && !hsd (T q) k 4)) k))]) rfl (Nat.le_of_ble_eq_true rfl) ⟨Nat.zero_le _, Nat.zero_le _⟩ d_Mo_overhang_70 (fun rr hrr => ?_)
                  replace hrr : rr = bI (hsd (T q) k 4 = true) := hrr.trans (bI_c (hsd_c ask_at))
                  subst hrr
                  refine bz_ne (tgt := 80) hx hb d_Mo_overhang_73 (by decide) (fun h8 => ?_) (fun h8 => ?_)
                  · skip
                    refine lv_iconst (v := 0) hx hb d_Mo_overhang_80 (by decide) ?_
                    refine topi_eq (show (0 : Int32) = nI (if vw (T q) k = true then if z.toInt < ((↑(k / 225) : Int) - 7) then if hsd (T q) k 4 = true then 0 else 1 else 0 else 0) by first | rfl | exact (bI_t (by assumption)).symm | exact (bI_f (by assumption)).symm | exact (bI_f (fun z => z (by assumption))).symm | (rw [if_pos h6, if_pos h7, if_pos h8]; done) | (rw [if_pos h6, if_pos h7, if_pos h8]; rfl) | (simp only [if_pos h6, if_pos h7, if_pos h8]; done) | (simp only [if_pos h6, if_pos h7, if_pos h8]; rfl)) ?_
                    exact hJ5 _ _ _ (by first | exact hM | (simp only [if_pos h6, if_pos h7, if_pos h8]; exact hM)) (by first | exact lv_sub hl [0, 1, 2, 3] rfl | (simp only [if_pos h6, if_pos h7, if_pos h8]; exact lv_sub hl [0, 1, 2, 3] rfl))
                  · skip
                    refine lv_iconst (v := 1) hx hb d_Mo_overhang_76 (by decide) ?_
                    refine lv_goto (tgt := 81) hx hb d_Mo_overhang_77 (by decide) ?_
                    refine topi_eq (show (1 : Int32) = nI (if vw (T q) k = true then if z.toInt < ((↑(k / 225) : Int) - 7) then if hsd (T q) k 4 = true then 0 else 1 else 0 else 0) by first | rfl | exact (bI_t (by assumption)).symm | exact (bI_f (by assumption)).symm | exact (bI_f (fun z => z (by assumption))).symm | (rw [if_pos h6, if_pos h7, if_neg h8]; done) | (rw [if_pos h6, if_pos h7, if_neg h8]; rfl) | (simp only [if_pos h6, if_pos h7, if_neg h8]; done) | (simp only [if_pos h6, if_pos h7, if_neg h8]; rfl)) ?_
                    exact hJ5 _ _ _ (by first | exact hM | (simp only [if_pos h6, if_pos h7, if_neg h8]; exact hM)) (by first | exact lv_sub hl [0, 1, 2, 3] rfl | (simp only [if_pos h6, if_pos h7, if_neg h8]; exact lv_sub hl [0, 1, 2, 3] rfl))
            intro H locs ls hM hl
            refine lv_iadd hx hb d_Mo_overhang_81 ?_
            refine topi_eq (nI_add (cn (fun k => vw (T q) k && (decide (z.toInt < (↑(k / 225) : Int) - 7) && !hsd (T q) k 4)) k) (if vw (T q) k = true then if z.toInt < ((↑(k / 225) : Int) - 7) then if hsd (T q) k 4 = true then 0 else 1 else 0 else 0)) ?_
            refine lv_istore_n (lv' := [(3, .int (nI ((cn (fun k => vw (T q) k && (decide (z.toInt < (↑(k / 225) : Int) - 7) && !hsd (T q) k 4)) k) + (if vw (T q) k = true then if z.toInt < ((↑(k / 225) : Int) - 7) then if hsd (T q) k 4 = true then 0 else 1 else 0 else 0)))), (0, .ref (ad 46)), (2, .int z), (4, .int (nI k))]) hx hb d_Mo_overhang_82 rfl hl (by decide) rfl (fun ls hl => ?_)
            refine lv_iinc (v := nI (k + 1)) (lv' := [(4, .int (nI (k + 1))), (3, .int (nI ((cn (fun k => vw (T q) k && (decide (z.toInt < (↑(k / 225) : Int) - 7) && !hsd (T q) k 4)) k) + (if vw (T q) k = true then if z.toInt < ((↑(k / 225) : Int) - 7) then if hsd (T q) k 4 = true then 0 else 1 else 0 else 0)))), (0, .ref (ad 46)), (2, .int z)]) hx hb d_Mo_overhang_83 hl (k := 3) rfl (nI_add k 1) (by decide) rfl (fun ls hl => ?_)
            refine lv_goto (tgt := 34) hx hb d_Mo_overhang_86 (by decide) ?_
            exact ih34 (k + 1) _ _ _ (by omega) (by omega) (hM) (by rw [show cn (fun k => vw (T q) k && (decide (z.toInt < (↑(k / 225) : Int) - 7) && !hsd (T q) k 4)) (k + 1) = (cn (fun k => vw (T q) k && (decide (z.toInt < (↑(k / 225) : Int) - 7) && !hsd (T q) k 4)) k) + (if vw (T q) k = true then if z.toInt < ((↑(k / 225) : Int) - 7) then if hsd (T q) k 4 = true then 0 else 1 else 0 else 0) from congrArg _ (and3p _ _ _)]; exact lv_sub hl [2, 3, 1, 0] rfl)
      exact hL34 _ 0 _ _ _ (Nat.lt_succ_self _) (by omega) (hM) (lv_sub hl [2, 4, 1, 0] rfl)
    · skip
      refine lv_iconst (v := (-1)) hx hb d_Mo_overhang_22 (by decide) ?_
      exact hret _ _ _ _ _ _ _ _ _ d_Mo_overhang_23 hM (⟨SP_a (fun _ _ => rfl), by rw [if_neg (by omega)]⟩)
