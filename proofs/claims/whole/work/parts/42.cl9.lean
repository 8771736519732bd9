/-! the class: all of a body's partings -/
theorem PBall (l : Launch) (D : va_G) (cT : Nat → ClassId) (X : CX) (I : Nat → Int32) (b : Nat) (t : TX) (hbn : b < X.2.2.2.1) (hE : ∀ B, evF t.2.1 t.2.2.1 10 0 B = spT t B) (hF9 : FT X.2.2.2.2 t.2.1 t.2.2.1 10 0 (X.2.1 (18 + 3 * b))) (hrp : rpOk t.2.1 t.2.2.1) (d : Nat) : ∀ (dep : Int), dep = 4 - (d : Int) → d ≤ 4 → ∀ (a' : Nat → Nat → Int32) (A' eb : Nat → Int), FR5 (a' (18 + 3 * b + 2)) A' → (0 ≤ A' 3 ∧ A' 3 ≤ 4) → vbk eb → eb 6 = dep → CMv l D cT X y_Bo_partBlock b_Bo_partBlock 10 none (27 + 2 * d) (940 + 80 * d) [.ref (X.1 (18 + 3 * b)), .int (iI (eb 0)), .int (iI (eb 1)), .int (iI (eb 2)), .int (iI (eb 3)), .int (iI (eb 4)), .int (iI (eb 5)), .int (iI (eb 6))] I a' (fun u => ∃ f, u = (I, va_up a' (18 + 3 * b + 2) f) ∧ FR5 f (cb A' (pae t eb))) := by
  induction d with
  | zero =>
    intro dep hd _ a' A' eb hA h3 hv h6
    exact c_Bo_partBlock l D cT X I a' b t A' eb 0 hbn hv hA h3 hE hF9 hrp (fun _ _ _ _ h => absurd h (by omega))
  | succ d ih =>
    intro dep hd h4 a' A' eb hA h3 hv h6
    exact c_Bo_partBlock l D cT X I a' b t A' eb (d + 1) hbn hv hA h3 hE hF9 hrp (fun a2 A2 hA2 h32 h36 => c_Bo_partInTwos l D cT X I a2 b t A2 eb d (dep + 1) hbn hv h36 hA2 h32 (by omega) (ih (dep + 1) (by omega) (by omega)))
theorem FR5_z {f : Nat → Int32} {t : TX} (h : FR5 f (cb zer (pae t rt0))) : FR5 f (pae t rt0) := by
  intro i hi
  refine (h i hi).trans (congrArg iI ?_)
  have h3 := paeD t 9 rt0 rt0_ok (by decide)
  have h6 : rt0 6 = 0 := rfl
  rcases i5 hi with rfl | rfl | rfl | rfl | rfl
  · show 0 + pae t rt0 0 = _; omega
  · show 0 + pae t rt0 1 = _; omega
  · show 0 + pae t rt0 2 = _; omega
  · show (if 0 < pae t rt0 3 then pae t rt0 3 else 0) = _
    split <;> omega
  · show 0 + pae t rt0 4 = _; omega
set_option maxHeartbeats 400000 in
set_option maxRecDepth 100000 in
theorem c_Bo_partedNumber_n (l : Launch) (D : va_G) (cT : Nat → ClassId) (X : CX) (I : Nat → Int32) (a : Nat → Nat → Int32) (b : Nat) (what : Int32) (t : TX) (hbn : b < X.2.2.2.1) (hw : 0 ≤ what.toInt ∧ what.toInt ≤ 4) (hE : ∀ B, evF t.2.1 t.2.2.1 10 0 B = spT t B) (hF9 : FT X.2.2.2.2 t.2.1 t.2.2.1 10 0 (X.2.1 (18 + 3 * b))) (hrp : rpOk t.2.1 t.2.2.1) (hp : I (10 * (18 + 3 * b) + 5) = 0) (hA : FR5 (a (18 + 3 * b + 2)) zer) : CMi l D cT X y_Bo_partedNumber b_Bo_partedNumber 2 (some .int) 36 1300 [.ref (X.1 (18 + 3 * b)), .int what] I a (fun r u => r = iI (pae t rt0 what.toInt.toNat) ∧ ∃ f, u = (upd I (10 * (18 + 3 * b) + 5) 1, va_up a (18 + 3 * b + 2) f) ∧ FR5 f (pae t rt0)) := by
  refine co_enti (own := R_Bo) (by decide) rfl (Nat.le_of_ble_eq_true rfl) ?_
  intro p e s m args below meth c Q hC hK hM hret ls hl
  have hx := hC.1
  have hb := hC.2.1
  replace hl : lv_has ls 2 [(0, .ref (X.1 (18 + 3 * b))), (1, .int what)] := hl
  refine lv_aload_n hx hb d_Bo_partedNumber_0 rfl (lv_at hl 0 rfl) ?_
  refine rd_get hC in_Bo hK hM.1 (18 + 3 * b) (cw_he (by omega) (cE_B b)) rfl 5 (by decide) wf_Bo_22 rfl (v := .int 0) (congrArg (fun z : Int32 => some (Value.int z)) (hp)) d_Bo_partedNumber_1 ?_
  refine yz_ne hx hb 0 (rfl) d_Bo_partedNumber_4 (tgt := 29) (by decide) (fun h1 => ?_) (fun h1 => ?_)
  · first | contradiction | (exfalso; omega)
  · skip
    refine lv_aload_n hx hb d_Bo_partedNumber_7 rfl (lv_at hl 0 rfl) ?_
    refine lv_bipush (v := (-7)) hx hb d_Bo_partedNumber_8 (by decide) ?_
    refine lv_bipush (v := (-7)) hx hb d_Bo_partedNumber_10 (by decide) ?_
    refine lv_bipush (v := (-7)) hx hb d_Bo_partedNumber_12 (by decide) ?_
    refine lv_bipush (v := 7) hx hb d_Bo_partedNumber_14 (by decide) ?_
    refine lv_bipush (v := 7) hx hb d_Bo_partedNumber_16 (by decide) ?_
    refine lv_bipush (v := 7) hx hb d_Bo_partedNumber_18 (by decide) ?_
    refine lv_iconst (v := 0) hx hb d_Bo_partedNumber_20 (by decide) ?_
    refine co_callv (np := 7) hC hK hM (k := 18 + 3 * b) (by omega) (cE_B b) rfl (PBall l D cT X I b t hbn hE hF9 hrp 4 0 (by decide) (by decide) a zer rt0 hA (by decide) rt0_ok rfl) rfl ⟨wl_Bo_65, wi_Bo_partBlock, ws_Bo_partBlock, wc_Bo_partBlock, wn_Bo⟩ ⟨by decide, by decide, by decide +kernel⟩ ⟨Nat.le_of_ble_eq_true rfl, Nat.le_of_ble_eq_true rfl⟩ hl.1 rfl (rest := []) rfl (Nat.le_of_ble_eq_true rfl) ⟨Nat.zero_le _, Nat.zero_le _⟩ d_Bo_partedNumber_21 (fun I1 a1 H locs hp1 hM => ?_)
    obtain ⟨f9, e9, hf9⟩ := hp1
    cases e9
    have hf8 := FR5_z hf9
    refine lv_aload_n hx hb d_Bo_partedNumber_24 rfl (lv_at hl 0 rfl) ?_
    refine lv_iconst (v := 1) hx hb d_Bo_partedNumber_25 (by decide) ?_
    refine co_put hC in_Bo t_Bo t_Bo_ok n_Bo hK hM (18 + 3 * b) (by omega) (cE_B b) rfl 5 (by decide) wf_Bo_22 rfl rfl (ty := .boolean) (by decide +kernel) (x := 1) (vz_in (by first | exact Or.inl rfl | exact Or.inr rfl | exact bI_01 | assumption)).1 (vz_in (by first | exact Or.inl rfl | exact Or.inr rfl | exact bI_01 | assumption)).2 (Nat.le_of_ble_eq_true rfl) (by decide) (cE_B5 b) d_Bo_partedNumber_26 (fun H locs hM => ?_)
    replace hM : CO D cT (CA X) X (upd I (10 * (18 + 3 * b) + 5) 1) (va_up a (18 + 3 * b + 2) f9) s.heap H locs := hM
    refine lv_iload_n hx hb d_Bo_partedNumber_29 rfl (lv_at hl 1 rfl) ?_
    refine yz_lt hx hb what.toInt (rfl) d_Bo_partedNumber_30 (tgt := 51) (by decide) (fun h2 => ?_) (fun h2 => ?_)
    · skip
      refine lv_iconst (v := (-1)) hx hb d_Bo_partedNumber_51 (by decide) ?_
      refine hret _ _ _ _ _ _ _ d_Bo_partedNumber_52 hM ?_
      exfalso
      omega
    · skip
      refine lv_iload_n hx hb d_Bo_partedNumber_33 rfl (lv_at hl 1 rfl) ?_
      refine lv_aload_n hx hb d_Bo_partedNumber_34 rfl (lv_at hl 0 rfl) ?_
      refine rd_get hC in_Bo hK hM.1 (18 + 3 * b) (cw_he (by omega) (cE_B b)) rfl 4 (by decide) wf_Bo_19 rfl (v := .ref (X.1 (18 + 3 * b + 2))) (rfl) d_Bo_partedNumber_35 ?_
      refine va_alen hx hb hK.1 hM.1 (18 + 3 * b + 2) 0 (cw_he (by omega) (cE_D b)) rfl (v := 5) rfl d_Bo_partedNumber_38 ?_
      refine yc_ge hx hb what.toInt 5 (rfl) (rfl) d_Bo_partedNumber_39 (tgt := 51) (by decide) (fun h3 => ?_) (fun h3 => ?_)
      · skip
        refine lv_iconst (v := (-1)) hx hb d_Bo_partedNumber_51 (by decide) ?_
        refine hret _ _ _ _ _ _ _ d_Bo_partedNumber_52 hM ?_
        exfalso
        omega
      · skip
        refine lv_aload_n hx hb d_Bo_partedNumber_42 rfl (lv_at hl 0 rfl) ?_
        refine rd_get hC in_Bo hK hM.1 (18 + 3 * b) (cw_he (by omega) (cE_B b)) rfl 4 (by decide) wf_Bo_19 rfl (v := .ref (X.1 (18 + 3 * b + 2))) (rfl) d_Bo_partedNumber_43 ?_
        refine lv_iload_n hx hb d_Bo_partedNumber_46 rfl (lv_at hl 1 rfl) ?_
        refine rd_iald hC hK hM.1 (18 + 3 * b + 2) (cw_he (by omega) (cE_D b)) what.toInt.toNat (i := what) (nI_ofI rfl (by omega)) (by omega) (by decide) (v := iI (pae t rt0 what.toInt.toNat)) ((congrFun (va_up_self _ _ _) _).trans (hf8 _ (by omega))) d_Bo_partedNumber_47 ?_
        refine lv_goto (tgt := 52) hx hb d_Bo_partedNumber_48 (by decide) ?_
        refine hret _ _ _ _ _ _ _ d_Bo_partedNumber_52 hM ?_
        exact ⟨rfl, f9, rfl, hf8⟩
set_option maxHeartbeats 400000 in
set_option maxRecDepth 100000 in
theorem c_Bo_partedNumber_y (l : Launch) (D : va_G) (cT : Nat → ClassId) (X : CX) (I : Nat → Int32) (a : Nat → Nat → Int32) (b : Nat) (what : Int32) (t : TX) (hbn : b < X.2.2.2.1) (hw : 0 ≤ what.toInt ∧ what.toInt ≤ 4) (hp : I (10 * (18 + 3 * b) + 5) = 1) (hA : FR5 (a (18 + 3 * b + 2)) (pae t rt0)) : CMi l D cT X y_Bo_partedNumber b_Bo_partedNumber 2 (some .int) 36 1300 [.ref (X.1 (18 + 3 * b)), .int what] I a (fun r u => r = iI (pae t rt0 what.toInt.toNat) ∧ u = (I, a)) := by
  refine co_enti (own := R_Bo) (by decide) rfl (Nat.le_of_ble_eq_true rfl) ?_
  intro p e s m args below meth c Q hC hK hM hret ls hl
  have hx := hC.1
  have hb := hC.2.1
  replace hl : lv_has ls 2 [(0, .ref (X.1 (18 + 3 * b))), (1, .int what)] := hl
  refine lv_aload_n hx hb d_Bo_partedNumber_0 rfl (lv_at hl 0 rfl) ?_
  refine rd_get hC in_Bo hK hM.1 (18 + 3 * b) (cw_he (by omega) (cE_B b)) rfl 5 (by decide) wf_Bo_22 rfl (v := .int 1) (congrArg (fun z : Int32 => some (Value.int z)) (hp)) d_Bo_partedNumber_1 ?_
  refine yz_ne hx hb 1 (rfl) d_Bo_partedNumber_4 (tgt := 29) (by decide) (fun h1 => ?_) (fun h1 => ?_)
  · skip
    refine lv_iload_n hx hb d_Bo_partedNumber_29 rfl (lv_at hl 1 rfl) ?_
    refine yz_lt hx hb what.toInt (rfl) d_Bo_partedNumber_30 (tgt := 51) (by decide) (fun h2 => ?_) (fun h2 => ?_)
    · skip
      refine lv_iconst (v := (-1)) hx hb d_Bo_partedNumber_51 (by decide) ?_
      refine hret _ _ _ _ _ _ _ d_Bo_partedNumber_52 hM ?_
      exfalso
      omega
    · skip
      refine lv_iload_n hx hb d_Bo_partedNumber_33 rfl (lv_at hl 1 rfl) ?_
      refine lv_aload_n hx hb d_Bo_partedNumber_34 rfl (lv_at hl 0 rfl) ?_
      refine rd_get hC in_Bo hK hM.1 (18 + 3 * b) (cw_he (by omega) (cE_B b)) rfl 4 (by decide) wf_Bo_19 rfl (v := .ref (X.1 (18 + 3 * b + 2))) (rfl) d_Bo_partedNumber_35 ?_
      refine va_alen hx hb hK.1 hM.1 (18 + 3 * b + 2) 0 (cw_he (by omega) (cE_D b)) rfl (v := 5) rfl d_Bo_partedNumber_38 ?_
      refine yc_ge hx hb what.toInt 5 (rfl) (rfl) d_Bo_partedNumber_39 (tgt := 51) (by decide) (fun h3 => ?_) (fun h3 => ?_)
      · skip
        refine lv_iconst (v := (-1)) hx hb d_Bo_partedNumber_51 (by decide) ?_
        refine hret _ _ _ _ _ _ _ d_Bo_partedNumber_52 hM ?_
        exfalso
        omega
      · skip
        refine lv_aload_n hx hb d_Bo_partedNumber_42 rfl (lv_at hl 0 rfl) ?_
        refine rd_get hC in_Bo hK hM.1 (18 + 3 * b) (cw_he (by omega) (cE_B b)) rfl 4 (by decide) wf_Bo_19 rfl (v := .ref (X.1 (18 + 3 * b + 2))) (rfl) d_Bo_partedNumber_43 ?_
        refine lv_iload_n hx hb d_Bo_partedNumber_46 rfl (lv_at hl 1 rfl) ?_
        refine rd_iald hC hK hM.1 (18 + 3 * b + 2) (cw_he (by omega) (cE_D b)) what.toInt.toNat (i := what) (nI_ofI rfl (by omega)) (by omega) (by decide) (v := iI (pae t rt0 what.toInt.toNat)) (hA _ (by omega)) d_Bo_partedNumber_47 ?_
        refine lv_goto (tgt := 52) hx hb d_Bo_partedNumber_48 (by decide) ?_
        refine hret _ _ _ _ _ _ _ d_Bo_partedNumber_52 hM ?_
        exact ⟨rfl, rfl⟩
  · first | contradiction | (exfalso; omega)
