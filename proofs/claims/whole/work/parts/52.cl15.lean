/-! the class: pieces, slices, two bodies, partings, rules -/
theorem fl_I {I : Nat → Int32} {lr n sz : Nat} (h1 : I 51 = nI lr) (h2 : I 54 = nI n) (h3 : I 55 = nI sz) : I = upd (upd (upd (upd I 51 (nI lr)) 54 (nI n)) 55 (nI sz)) 56 (I 56) := by
  funext k
  unfold upd
  split
  · next e => rw [e]
  · split
    · next e => rw [e, h3]
    · split
      · next e => rw [e, h2]
      · split
        · next e => rw [e, h1]
        · rfl
theorem fl_A {a : Nat → Nat → Int32} : a = va_up (va_up (va_up a 6 (a 6)) 7 (a 7)) 8 (a 8) := by
  funext k
  unfold va_up
  split
  · next e => rw [e]
  · split
    · next e => rw [e]
    · split
      · next e => rw [e]
      · rfl
theorem CI_fk {X : CX} {I : Nat → Int32} {a : Nat → Nat → Int32} {nb : Nat} {T : Nat → TX} {tl : Nat} {tb : Nat → Nat} {ft : Int32} {la : Nat → Int32} {sz : Nat → Nat} {ce : Nat → Nat → Int32} {L P S : Nat → Int32} {lr n s : Nat} {en : Int32} (h : CI X I a nb T tl tb ft la sz ce) (hf : FK L P lr) : CI X (upd (upd (upd (upd I 51 (nI lr)) 54 (nI n)) 55 (nI s)) 56 en) (va_up (va_up (va_up a 6 L) 7 P) 8 S) nb T tl tb ft la sz ce := by
  refine CI_fl h (fun k hk => ?_) (fun k hk => ?_) ⟨⟨lr, n, s, ?_, ?_, ?_⟩, ?_⟩
  · rw [pk_un (by omega), pk_un (by omega), pk_un (by omega), pk_un (by omega)]
  · rw [va_up_ne _ _ (by omega), va_up_ne _ _ (by omega), va_up_ne _ _ (by omega)]
  · rw [pk_un (by decide), pk_un (by decide), pk_un (by decide), pk_us]
  · rw [pk_un (by decide), pk_un (by decide), pk_us]
  · rw [pk_un (by decide), pk_us]
  · rw [va_up_ne _ _ (by decide), va_up_self]; exact hf.2.1
theorem pt_at {L g : Nat → Int32} {q : Nat} (h : q < 225) : pt L g 0 225 q = g q := by
  unfold pt
  rw [if_pos (by omega)]
  rfl
theorem bl_pt {L g : Nat → Int32} {k : Nat} (h : k < 3375) : bl (pt L g 0 225) k = bt (g (k / 15)) (k % 15 + 1) := by unfold bl; rw [pt_at (by omega)]
theorem B15_rwI {V : Nat → Bool} {q : Nat} : B15 (rwI V q) := fun i hi => by
  have h32 : i < 32 := by
    rcases Nat.lt_or_ge i 32 with h | h
    · exact h
    · rw [b_big h] at hi; cases hi
  rw [bt_rwI h32, Bool.and_eq_true, decide_eq_true_eq] at hi
  exact hi.1
theorem bl_rwI {V : Nat → Bool} {k : Nat} : bt (rwI V (k / 15)) (k % 15 + 1) = V k := by
  rw [bt_rwI (by omega), decide_eq_true (by omega), Bool.true_and]
  congr 1
  omega
theorem b_full : ∀ i, i < 32 → bt 65534 i = decide (1 ≤ i ∧ i ≤ 15) := by decide +kernel
def NV (V : Nat → Bool) (k : Nat) : Bool := !V k
def ZV (V : Nat → Bool) (z : Int) (k : Nat) : Bool := V k && decide ((↑(k / 225) : Int) + (-7) = z)
section LDS
variable {L g PD : Nat → Int32} {V : Nat → Bool}
theorem ld_in (h : ∀ q, q < 225 → g q = rwI V q) (hP : ∀ q, q < 225 → PD q = 0) : FK (pt L g 0 225) PD 0 ∧ ∀ k, k < 3375 → bl (pt L g 0 225) k = V k :=
  ⟨⟨fun q hq => by rw [pt_at hq, h q hq]; exact B15_rwI, hP, Nat.zero_le _, fun q hq => absurd hq (Nat.not_lt_zero _)⟩, fun k hk => by rw [bl_pt hk, h _ (by omega)]; exact bl_rwI⟩
theorem ld_out (h : ∀ q, q < 225 → g q = rwI V q) (hP : ∀ q, q < 225 → PD q = 0) : FK (pt L (fun q => 65534 &&& (g q ^^^ (-1))) 0 225) PD 0 ∧ ∀ k, k < 3375 → bl (pt L (fun q => 65534 &&& (g q ^^^ (-1))) 0 225) k = NV V k := by
  refine ⟨⟨fun q hq => ?_, hP, Nat.zero_le _, fun q hq => absurd hq (Nat.not_lt_zero _)⟩, fun k hk => ?_⟩
  · rw [pt_at hq]
    refine B15_and (fun i hi => ?_)
    have h32 : i < 32 := by
      rcases Nat.lt_or_ge i 32 with h | h
      · exact h
      · rw [b_big h] at hi; cases hi
    rw [b_full i h32, decide_eq_true_eq] at hi
    exact hi
  · rw [bl_pt hk]
    show bt (65534 &&& (g (k / 15) ^^^ (-1))) (k % 15 + 1) = _
    rw [b_and, b_full _ (by omega), decide_eq_true (by omega), Bool.true_and, b_not _ (by omega), h _ (by omega), bl_rwI]
    rfl
theorem ld_sl {z : Int} (h : ∀ q, q < 225 → g q = rwI V q) (hP : ∀ q, q < 225 → PD q = 0) : FK (pt L (fun q => if (↑(q / 15) : Int) + (-7) = z then g q else 0) 0 225) PD 0 ∧ ∀ k, k < 3375 → bl (pt L (fun q => if (↑(q / 15) : Int) + (-7) = z then g q else 0) 0 225) k = ZV V z k := by
  refine ⟨⟨fun q hq => ?_, hP, Nat.zero_le _, fun q hq => absurd hq (Nat.not_lt_zero _)⟩, fun k hk => ?_⟩
  · rw [pt_at hq]
    show B15 (if (↑(q / 15) : Int) + (-7) = z then g q else 0)
    split
    · rw [h q hq]; exact B15_rwI
    · exact B15_0
  · rw [bl_pt hk]
    show bt (if (↑(k / 15 / 15) : Int) + (-7) = z then g (k / 15) else 0) (k % 15 + 1) = _
    unfold ZV
    rw [show k / 15 / 15 = k / 225 by omega]
    by_cases e : (↑(k / 225) : Int) + (-7) = z
    · rw [if_pos e, h _ (by omega), bl_rwI, decide_eq_true e, Bool.and_true]
    · rw [if_neg e, b_0, decide_eq_false e, Bool.and_false]
end LDS
set_option maxHeartbeats 400000 in
set_option maxRecDepth 100000 in
theorem c_So_parts_y (l : Launch) (D : va_G) (cT : Nat → ClassId) (X : CX) (I : Nat → Int32) (a : Nat → Nat → Int32) (b : Nat) (what : Int32) (nb : Nat) (T : Nat → TX) (tl : Nat) (tb : Nat → Nat) (ft : Int32) (la : Nat → Int32) (szz : Nat → Nat) (ce : Nat → Nat → Int32) (hCI : CI X I a nb T tl tb ft la szz ce) (hbb : b < nb) : CMi l D cT X y_So_parts b_So_parts 4 (some .int) 26 865 [.ref (X.1 0), .int (nI b), .int what] I a (fun r u => (r = if 0 ≤ what.toInt ∧ what.toInt ≤ 3 then (if what.toInt = 0 then nI (cn (plS (VF (T b))) 3375) else if what.toInt = 1 then nI (cn (fun k => plS (NV (VF (T b))) k && shS (NV (VF (T b))) k) 3375) else if what.toInt = 2 then nI (gmx (plS (VF (T b))) (szS (VF (T b))) 3375) else nI (smx (fun k => plS (NV (VF (T b))) k && shS (NV (VF (T b))) k) (szS (NV (VF (T b)))) 3375)) else -1) ∧ CI X u.1 u.2 nb T tl tb ft la szz ce) := by
  refine co_enti (own := R_So) (by decide) rfl (Nat.le_of_ble_eq_true rfl) ?_
  intro p e s m args below meth c Q hC hK hM hret ls hl
  have hx := hC.1
  have hb := hC.2.1
  replace hl : lv_has ls 4 [(0, .ref (X.1 0)), (1, .int (nI b)), (2, .int what)] := hl
  refine lv_aload_n hx hb d_So_parts_0 rfl (lv_at hl 0 rfl) ?_
  refine lv_iload_n hx hb d_So_parts_1 rfl (lv_at hl 1 rfl) ?_
  refine co_callq (np := 1) hC hK hM (k := 0) (by omega) (cE_0) rfl (c_So_paintedBody_y l D cT X I a b nb T tl tb ft la szz ce hCI hbb) rfl ⟨wl_So_113, wi_So_paintedBody, ws_So_paintedBody, wc_So_paintedBody, wn_So⟩ ⟨by decide, by decide, by decide +kernel⟩ ⟨Nat.le_of_ble_eq_true rfl, Nat.le_of_ble_eq_true rfl⟩ hl.1 rfl (rest := []) rfl (Nat.le_of_ble_eq_true rfl) ⟨Nat.zero_le _, Nat.zero_le _⟩ d_So_parts_2 (fun rr1 I1 a1 H locs hp1 hM => ?_)
  obtain ⟨ho1, hCI, hRW1, hKP1⟩ := hp1
  subst ho1
  replace hCI : CI X I1 a1 nb T tl tb ft la szz ce := hCI
  replace hRW1 : ∀ q, q < 225 → a1 (18 + 3 * b + 1) q = rwI (VF (T b)) q := hRW1
  have hbn1 : b < X.2.2.2.1 := by rw [hCI.1.2.1]; omega
  have hlo1 : ∀ q, q < 225 → lo16 (a1 (18 + 3 * b + 1) q) := fun q hq => by rw [hRW1 q hq]; exact lo_rwI
  refine lv_astore_n (lv' := [(3, .ref (X.1 (18 + 3 * b))), (0, .ref (X.1 0)), (1, .int (nI b)), (2, .int what)]) hx hb d_So_parts_5 rfl hl (by decide) rfl (fun ls hl => ?_)
  refine lv_aload_n hx hb d_So_parts_6 rfl (lv_at hl 0 rfl) ?_
  refine lv_ifnull hx hb d_So_parts_7 ?_
  refine lv_iload_n hx hb d_So_parts_10 rfl (lv_at hl 3 rfl) ?_
  refine lv_iconst (v := 0) hx hb d_So_parts_11 (by decide) ?_
  refine lv_iconst (v := 3) hx hb d_So_parts_12 (by decide) ?_
  refine st_calli (np := 3) hC (c_So_isBetween l what 0 3 what.toInt 0 3 rfl rfl rfl) ⟨wl_So_106, wt_So_isBetween, wc_So_isBetween, wn_So⟩ ⟨by decide, by decide, by decide +kernel⟩ ⟨Nat.le_of_ble_eq_true rfl, Nat.le_of_ble_eq_true rfl⟩ hl.1 rfl (rest := []) rfl (Nat.le_of_ble_eq_true rfl) ⟨Nat.zero_le _, Nat.zero_le _⟩ d_So_parts_13 (fun rr hrr => ?_)
  subst hrr
  refine bz_ne (tgt := 21) hx hb d_So_parts_16 (by decide) (fun h2 => ?_) (fun h2 => ?_)
  · skip
    refine lv_iload_n hx hb d_So_parts_21 rfl (lv_at hl 3 rfl) ?_
    refine yz_eq hx hb what.toInt (rfl) d_So_parts_22 (tgt := 30) (by decide) (fun h3 => ?_) (fun h3 => ?_)
    · skip
      obtain ⟨⟨lr9, n9, sz9, q51, q54, q55⟩, hpz9⟩ := id hCI.2.1
      rw [fl_I q51 q54 q55, fl_A (a := a1)] at hM
      refine lv_aload_n hx hb d_So_parts_30 rfl (lv_at hl 1 rfl) ?_
      refine rd_get hC in_So hK hM.1 0 (cw_he (by omega) (cE_0)) rfl 5 (by decide) wf_So_41 rfl (v := .ref (X.1 5)) (rfl) d_So_parts_31 ?_
      refine lv_aload_n hx hb d_So_parts_34 rfl (lv_at hl 0 rfl) ?_
      refine co_callv (np := 1) hC hK hM (k := 5) (by omega) (cE_5) rfl (c_Fl_loadWithin l D cT X I1 a1 b (a1 6) (a1 7) (a1 8) lr9 n9 sz9 (I1 56) hbn1) rfl ⟨wl_So_134, wi_Fl_loadWithin, ws_Fl_loadWithin, wc_Fl_loadWithin, wn_Fl⟩ ⟨by decide, by decide, by decide +kernel⟩ ⟨Nat.le_of_ble_eq_true rfl, Nat.le_of_ble_eq_true rfl⟩ hl.1 rfl (rest := []) rfl (Nat.le_of_ble_eq_true rfl) ⟨Nat.zero_le _, Nat.zero_le _⟩ d_So_parts_35 (fun I4 a4 H locs hp4 hM => ?_)
      cases hp4
      have hld9 := ld_in (L := a1 6) (PD := a1 7) hRW1 hpz9
      refine lv_iload_n hx hb d_So_parts_38 rfl (lv_at hl 3 rfl) ?_
      refine yz_ne hx hb what.toInt (rfl) d_So_parts_39 (tgt := 52) (by decide) (fun h5 => ?_) (fun h5 => ?_)
      · first | contradiction | (exfalso; omega)
      · skip
        refine lv_aload_n hx hb d_So_parts_42 rfl (lv_at hl 1 rfl) ?_
        refine rd_get hC in_So hK hM.1 0 (cw_he (by omega) (cE_0)) rfl 5 (by decide) wf_So_41 rfl (v := .ref (X.1 5)) (rfl) d_So_parts_43 ?_
        refine co_calli (np := 0) hC hK hM (k := 5) (by omega) (cE_5) rfl (c_Fl_countPieces l D cT X I1 a1 (pt (a1 6) (a1 (18 + 3 * b + 1)) 0 225) (a1 7) (a1 8) 0 n9 sz9 (I1 56) (VF (T b)) hld9.1 hld9.2) rfl ⟨wl_So_138, wi_Fl_countPieces, ws_Fl_countPieces, wc_Fl_countPieces, wn_Fl⟩ ⟨by decide, by decide, by decide +kernel⟩ ⟨Nat.le_of_ble_eq_true rfl, Nat.le_of_ble_eq_true rfl⟩ hl.1 rfl (rest := []) rfl (Nat.le_of_ble_eq_true rfl) ⟨Nat.zero_le _, Nat.zero_le _⟩ d_So_parts_46 (fun rr6 I6 a6 H locs hp6 hM => ?_)
        obtain ⟨L6, P6, S6, lr6, n6, sz6, en6, e6, hF6, hr6⟩ := hp6
        cases e6
        refine lv_goto (tgt := 59) hx hb d_So_parts_49 (by decide) ?_
        refine hret _ _ _ _ _ _ _ d_So_parts_59 hM ?_
        refine ⟨?_, CI_fk hCI hF6⟩
        rw [if_pos (by omega), hr6]
        first | (rw [if_pos (by omega)]; done) | (rw [if_neg (by omega), if_pos (by omega)]; done) | (rw [if_neg (by omega), if_neg (by omega), if_pos (by omega)]; done) | (rw [if_neg (by omega), if_neg (by omega), if_neg (by omega)]; done)
    · skip
      refine lv_iload_n hx hb d_So_parts_25 rfl (lv_at hl 3 rfl) ?_
      refine lv_iconst (v := 2) hx hb d_So_parts_26 (by decide) ?_
      refine yc_ne hx hb what.toInt 2 (rfl) (rfl) d_So_parts_27 (tgt := 60) (by decide) (fun h7 => ?_) (fun h7 => ?_)
      · skip
        obtain ⟨⟨lr9, n9, sz9, q51, q54, q55⟩, hpz9⟩ := id hCI.2.1
        rw [fl_I q51 q54 q55, fl_A (a := a1)] at hM
        refine lv_aload_n hx hb d_So_parts_60 rfl (lv_at hl 1 rfl) ?_
        refine rd_get hC in_So hK hM.1 0 (cw_he (by omega) (cE_0)) rfl 5 (by decide) wf_So_41 rfl (v := .ref (X.1 5)) (rfl) d_So_parts_61 ?_
        refine lv_aload_n hx hb d_So_parts_64 rfl (lv_at hl 0 rfl) ?_
        refine co_callv (np := 1) hC hK hM (k := 5) (by omega) (cE_5) rfl (c_Fl_loadWithout l D cT X I1 a1 b (a1 6) (a1 7) (a1 8) lr9 n9 sz9 (I1 56) hbn1) rfl ⟨wl_So_144, wi_Fl_loadWithout, ws_Fl_loadWithout, wc_Fl_loadWithout, wn_Fl⟩ ⟨by decide, by decide, by decide +kernel⟩ ⟨Nat.le_of_ble_eq_true rfl, Nat.le_of_ble_eq_true rfl⟩ hl.1 rfl (rest := []) rfl (Nat.le_of_ble_eq_true rfl) ⟨Nat.zero_le _, Nat.zero_le _⟩ d_So_parts_65 (fun I8 a8 H locs hp8 hM => ?_)
        cases hp8
        have hld9 := ld_out (L := a1 6) (PD := a1 7) hRW1 hpz9
        refine lv_iload_n hx hb d_So_parts_68 rfl (lv_at hl 3 rfl) ?_
        refine lv_iconst (v := 1) hx hb d_So_parts_69 (by decide) ?_
        refine yc_ne hx hb what.toInt 1 (rfl) (rfl) d_So_parts_70 (tgt := 83) (by decide) (fun h9 => ?_) (fun h9 => ?_)
        · skip
          refine lv_aload_n hx hb d_So_parts_83 rfl (lv_at hl 1 rfl) ?_
          refine rd_get hC in_So hK hM.1 0 (cw_he (by omega) (cE_0)) rfl 5 (by decide) wf_So_41 rfl (v := .ref (X.1 5)) (rfl) d_So_parts_84 ?_
          refine co_calli (np := 0) hC hK hM (k := 5) (by omega) (cE_5) rfl (c_Fl_countShutPoints l D cT X I1 a1 (pt (a1 6) (fun q => 65534 &&& (a1 (18 + 3 * b + 1) q ^^^ (-1))) 0 225) (a1 7) (a1 8) 0 n9 sz9 (I1 56) (NV (VF (T b))) hld9.1 hld9.2) rfl ⟨wl_So_150, wi_Fl_countShutPoints, ws_Fl_countShutPoints, wc_Fl_countShutPoints, wn_Fl⟩ ⟨by decide, by decide, by decide +kernel⟩ ⟨Nat.le_of_ble_eq_true rfl, Nat.le_of_ble_eq_true rfl⟩ hl.1 rfl (rest := []) rfl (Nat.le_of_ble_eq_true rfl) ⟨Nat.zero_le _, Nat.zero_le _⟩ d_So_parts_87 (fun rr10 I10 a10 H locs hp10 hM => ?_)
          obtain ⟨L10, P10, S10, lr10, n10, sz10, en10, e10, hF10, hr10⟩ := hp10
          cases e10
          refine hret _ _ _ _ _ _ _ d_So_parts_90 hM ?_
          refine ⟨?_, CI_fk hCI hF10⟩
          rw [if_pos (by omega), hr10]
          first | (rw [if_pos (by omega)]; done) | (rw [if_neg (by omega), if_pos (by omega)]; done) | (rw [if_neg (by omega), if_neg (by omega), if_pos (by omega)]; done) | (rw [if_neg (by omega), if_neg (by omega), if_neg (by omega)]; done)
        · skip
          refine lv_aload_n hx hb d_So_parts_73 rfl (lv_at hl 1 rfl) ?_
          refine rd_get hC in_So hK hM.1 0 (cw_he (by omega) (cE_0)) rfl 5 (by decide) wf_So_41 rfl (v := .ref (X.1 5)) (rfl) d_So_parts_74 ?_
          refine co_calli (np := 0) hC hK hM (k := 5) (by omega) (cE_5) rfl (c_Fl_countShutPieces l D cT X I1 a1 (pt (a1 6) (fun q => 65534 &&& (a1 (18 + 3 * b + 1) q ^^^ (-1))) 0 225) (a1 7) (a1 8) 0 n9 sz9 (I1 56) (NV (VF (T b))) hld9.1 hld9.2) rfl ⟨wl_So_147, wi_Fl_countShutPieces, ws_Fl_countShutPieces, wc_Fl_countShutPieces, wn_Fl⟩ ⟨by decide, by decide, by decide +kernel⟩ ⟨Nat.le_of_ble_eq_true rfl, Nat.le_of_ble_eq_true rfl⟩ hl.1 rfl (rest := []) rfl (Nat.le_of_ble_eq_true rfl) ⟨Nat.zero_le _, Nat.zero_le _⟩ d_So_parts_77 (fun rr11 I11 a11 H locs hp11 hM => ?_)
          obtain ⟨L11, P11, S11, lr11, n11, sz11, en11, e11, hF11, hr11⟩ := hp11
          cases e11
          refine lv_goto (tgt := 90) hx hb d_So_parts_80 (by decide) ?_
          refine hret _ _ _ _ _ _ _ d_So_parts_90 hM ?_
          refine ⟨?_, CI_fk hCI hF11⟩
          rw [if_pos (by omega), hr11]
          first | (rw [if_pos (by omega)]; done) | (rw [if_neg (by omega), if_pos (by omega)]; done) | (rw [if_neg (by omega), if_neg (by omega), if_pos (by omega)]; done) | (rw [if_neg (by omega), if_neg (by omega), if_neg (by omega)]; done)
      · skip
        obtain ⟨⟨lr9, n9, sz9, q51, q54, q55⟩, hpz9⟩ := id hCI.2.1
        rw [fl_I q51 q54 q55, fl_A (a := a1)] at hM
        refine lv_aload_n hx hb d_So_parts_30 rfl (lv_at hl 1 rfl) ?_
        refine rd_get hC in_So hK hM.1 0 (cw_he (by omega) (cE_0)) rfl 5 (by decide) wf_So_41 rfl (v := .ref (X.1 5)) (rfl) d_So_parts_31 ?_
        refine lv_aload_n hx hb d_So_parts_34 rfl (lv_at hl 0 rfl) ?_
        refine co_callv (np := 1) hC hK hM (k := 5) (by omega) (cE_5) rfl (c_Fl_loadWithin l D cT X I1 a1 b (a1 6) (a1 7) (a1 8) lr9 n9 sz9 (I1 56) hbn1) rfl ⟨wl_So_134, wi_Fl_loadWithin, ws_Fl_loadWithin, wc_Fl_loadWithin, wn_Fl⟩ ⟨by decide, by decide, by decide +kernel⟩ ⟨Nat.le_of_ble_eq_true rfl, Nat.le_of_ble_eq_true rfl⟩ hl.1 rfl (rest := []) rfl (Nat.le_of_ble_eq_true rfl) ⟨Nat.zero_le _, Nat.zero_le _⟩ d_So_parts_35 (fun I12 a12 H locs hp12 hM => ?_)
        cases hp12
        have hld9 := ld_in (L := a1 6) (PD := a1 7) hRW1 hpz9
        refine lv_iload_n hx hb d_So_parts_38 rfl (lv_at hl 3 rfl) ?_
        refine yz_ne hx hb what.toInt (rfl) d_So_parts_39 (tgt := 52) (by decide) (fun h13 => ?_) (fun h13 => ?_)
        · skip
          refine lv_aload_n hx hb d_So_parts_52 rfl (lv_at hl 1 rfl) ?_
          refine rd_get hC in_So hK hM.1 0 (cw_he (by omega) (cE_0)) rfl 5 (by decide) wf_So_41 rfl (v := .ref (X.1 5)) (rfl) d_So_parts_53 ?_
          refine co_calli (np := 0) hC hK hM (k := 5) (by omega) (cE_5) rfl (c_Fl_greatestPiece l D cT X I1 a1 (pt (a1 6) (a1 (18 + 3 * b + 1)) 0 225) (a1 7) (a1 8) 0 n9 sz9 (I1 56) (VF (T b)) hld9.1 hld9.2) rfl ⟨wl_So_141, wi_Fl_greatestPiece, ws_Fl_greatestPiece, wc_Fl_greatestPiece, wn_Fl⟩ ⟨by decide, by decide, by decide +kernel⟩ ⟨Nat.le_of_ble_eq_true rfl, Nat.le_of_ble_eq_true rfl⟩ hl.1 rfl (rest := []) rfl (Nat.le_of_ble_eq_true rfl) ⟨Nat.zero_le _, Nat.zero_le _⟩ d_So_parts_56 (fun rr14 I14 a14 H locs hp14 hM => ?_)
          obtain ⟨L14, P14, S14, lr14, n14, sz14, en14, e14, hF14, hr14⟩ := hp14
          cases e14
          refine hret _ _ _ _ _ _ _ d_So_parts_59 hM ?_
          refine ⟨?_, CI_fk hCI hF14⟩
          rw [if_pos (by omega), hr14]
          first | (rw [if_pos (by omega)]; done) | (rw [if_neg (by omega), if_pos (by omega)]; done) | (rw [if_neg (by omega), if_neg (by omega), if_pos (by omega)]; done) | (rw [if_neg (by omega), if_neg (by omega), if_neg (by omega)]; done)
        · first | contradiction | (exfalso; omega)
  · skip
    refine lv_iconst (v := (-1)) hx hb d_So_parts_19 (by decide) ?_
    refine hret _ _ _ _ _ _ _ d_So_parts_20 hM ?_
    refine ⟨?_, hCI⟩
    rw [if_neg (by omega)]
set_option maxHeartbeats 400000 in
set_option maxRecDepth 100000 in
theorem c_So_parts_n (l : Launch) (D : va_G) (cT : Nat → ClassId) (X : CX) (I : Nat → Int32) (a : Nat → Nat → Int32) (b : Int32) (what : Int32) (nb : Nat) (T : Nat → TX) (tl : Nat) (tb : Nat → Nat) (ft : Int32) (la : Nat → Int32) (szz : Nat → Nat) (ce : Nat → Nat → Int32) (hCI : CI X I a nb T tl tb ft la szz ce) (hbb : ¬ (0 ≤ b.toInt ∧ b.toInt < nb)) : CMi l D cT X y_So_parts b_So_parts 4 (some .int) 26 865 [.ref (X.1 0), .int b, .int what] I a (fun r u => r = -1 ∧ u = (I, a)) := by
  refine co_enti (own := R_So) (by decide) rfl (Nat.le_of_ble_eq_true rfl) ?_
  intro p e s m args below meth c Q hC hK hM hret ls hl
  have hx := hC.1
  have hb := hC.2.1
  replace hl : lv_has ls 4 [(0, .ref (X.1 0)), (1, .int b), (2, .int what)] := hl
  refine lv_aload_n hx hb d_So_parts_0 rfl (lv_at hl 0 rfl) ?_
  refine lv_iload_n hx hb d_So_parts_1 rfl (lv_at hl 1 rfl) ?_
  refine co_callq (np := 1) hC hK hM (k := 0) (by omega) (cE_0) rfl (c_So_paintedBody_n l D cT X I a b nb T tl tb ft la szz ce hCI hbb) rfl ⟨wl_So_113, wi_So_paintedBody, ws_So_paintedBody, wc_So_paintedBody, wn_So⟩ ⟨by decide, by decide, by decide +kernel⟩ ⟨Nat.le_of_ble_eq_true rfl, Nat.le_of_ble_eq_true rfl⟩ hl.1 rfl (rest := []) rfl (Nat.le_of_ble_eq_true rfl) ⟨Nat.zero_le _, Nat.zero_le _⟩ d_So_parts_2 (fun rr1 I1 a1 H locs hp1 hM => ?_)
  obtain ⟨hr1, hp1⟩ := hp1
  cases hp1
  subst hr1
  refine lv_astore_nN (lv' := [(3, .null), (0, .ref (X.1 0)), (1, .int b), (2, .int what)]) hx hb d_So_parts_5 rfl hl (by decide) rfl (fun ls hl => ?_)
  refine lv_aload_nN hx hb d_So_parts_6 rfl (lv_at hl 0 rfl) ?_
  refine lv_ifnullN (tgt := 19) hx hb d_So_parts_7 (by decide) ?_
  refine lv_iconst (v := (-1)) hx hb d_So_parts_19 (by decide) ?_
  exact hret _ _ _ _ _ _ _ d_So_parts_20 hM (⟨rfl, rfl⟩)
set_option maxHeartbeats 400000 in
set_option maxRecDepth 100000 in
theorem c_So_part_y (l : Launch) (D : va_G) (cT : Nat → ClassId) (X : CX) (I : Nat → Int32) (a : Nat → Nat → Int32) (b : Nat) (x : Int32) (y : Int32) (z : Int32) (nb : Nat) (T : Nat → TX) (tl : Nat) (tb : Nat → Nat) (ft : Int32) (la : Nat → Int32) (szz : Nat → Nat) (ce : Nat → Nat → Int32) (hCI : CI X I a nb T tl tb ft la szz ce) (hbb : b < nb) : CMi l D cT X y_So_part b_So_part 6 (some .int) 26 865 [.ref (X.1 0), .int (nI b), .int x, .int y, .int z] I a (fun r u => (if -7 ≤ x.toInt ∧ x.toInt ≤ 7 ∧ -7 ≤ y.toInt ∧ y.toInt ≤ 7 ∧ -7 ≤ z.toInt ∧ z.toInt ≤ 7 then (if (VF (T b)) (nix x.toInt y.toInt z.toInt) = true then ∃ f, f < 3375 ∧ plS (VF (T b)) f = true ∧ cS (VF (T b)) f (nix x.toInt y.toInt z.toInt) ∧ r = nI (cn (plS (VF (T b))) f) else r = -4) else r = -1) ∧ CI X u.1 u.2 nb T tl tb ft la szz ce) := by
  refine co_enti (own := R_So) (by decide) rfl (Nat.le_of_ble_eq_true rfl) ?_
  intro p e s m args below meth c Q hC hK hM hret ls hl
  have hx := hC.1
  have hb := hC.2.1
  replace hl : lv_has ls 6 [(0, .ref (X.1 0)), (1, .int (nI b)), (2, .int x), (3, .int y), (4, .int z)] := hl
  refine lv_aload_n hx hb d_So_part_0 rfl (lv_at hl 0 rfl) ?_
  refine lv_iload_n hx hb d_So_part_1 rfl (lv_at hl 1 rfl) ?_
  refine co_callq (np := 1) hC hK hM (k := 0) (by omega) (cE_0) rfl (c_So_paintedBody_y l D cT X I a b nb T tl tb ft la szz ce hCI hbb) rfl ⟨wl_So_113, wi_So_paintedBody, ws_So_paintedBody, wc_So_paintedBody, wn_So⟩ ⟨by decide, by decide, by decide +kernel⟩ ⟨Nat.le_of_ble_eq_true rfl, Nat.le_of_ble_eq_true rfl⟩ hl.1 rfl (rest := []) rfl (Nat.le_of_ble_eq_true rfl) ⟨Nat.zero_le _, Nat.zero_le _⟩ d_So_part_2 (fun rr1 I1 a1 H locs hp1 hM => ?_)
  obtain ⟨ho1, hCI, hRW1, hKP1⟩ := hp1
  subst ho1
  replace hCI : CI X I1 a1 nb T tl tb ft la szz ce := hCI
  replace hRW1 : ∀ q, q < 225 → a1 (18 + 3 * b + 1) q = rwI (VF (T b)) q := hRW1
  have hbn1 : b < X.2.2.2.1 := by rw [hCI.1.2.1]; omega
  have hlo1 : ∀ q, q < 225 → lo16 (a1 (18 + 3 * b + 1) q) := fun q hq => by rw [hRW1 q hq]; exact lo_rwI
  refine lv_astore (lv' := [(5, .ref (X.1 (18 + 3 * b))), (0, .ref (X.1 0)), (1, .int (nI b)), (2, .int x), (3, .int y), (4, .int z)]) hx hb d_So_part_5 hl (by decide) rfl (fun ls hl => ?_)
  refine lv_aload hx hb d_So_part_7 (lv_at hl 0 rfl) ?_
  refine lv_ifnull hx hb d_So_part_9 ?_
  refine lv_iload_n hx hb d_So_part_12 rfl (lv_at hl 3 rfl) ?_
  refine lv_iload_n hx hb d_So_part_13 rfl (lv_at hl 4 rfl) ?_
  refine lv_iload hx hb d_So_part_14 (lv_at hl 5 rfl) ?_
  refine st_calli (np := 3) hC (c_So_isPoint l x y z x.toInt y.toInt z.toInt rfl rfl rfl) ⟨wl_So_98, wt_So_isPoint, wc_So_isPoint, wn_So⟩ ⟨by decide, by decide, by decide +kernel⟩ ⟨Nat.le_of_ble_eq_true rfl, Nat.le_of_ble_eq_true rfl⟩ hl.1 rfl (rest := []) rfl (Nat.le_of_ble_eq_true rfl) ⟨Nat.zero_le _, Nat.zero_le _⟩ d_So_part_16 (fun rr hrr => ?_)
  subst hrr
  refine bz_ne (tgt := 24) hx hb d_So_part_19 (by decide) (fun h2 => ?_) (fun h2 => ?_)
  · skip
    rw [iI_of x, iI_of y, iI_of z] at hl
    obtain ⟨⟨lr9, n9, sz9, q51, q54, q55⟩, hpz9⟩ := id hCI.2.1
    rw [fl_I q51 q54 q55, fl_A (a := a1)] at hM
    refine lv_aload_n hx hb d_So_part_24 rfl (lv_at hl 1 rfl) ?_
    refine rd_get hC in_So hK hM.1 0 (cw_he (by omega) (cE_0)) rfl 5 (by decide) wf_So_41 rfl (v := .ref (X.1 5)) (rfl) d_So_part_25 ?_
    refine lv_aload hx hb d_So_part_28 (lv_at hl 0 rfl) ?_
    refine co_callv (np := 1) hC hK hM (k := 5) (by omega) (cE_5) rfl (c_Fl_loadWithin l D cT X I1 a1 b (a1 6) (a1 7) (a1 8) lr9 n9 sz9 (I1 56) hbn1) rfl ⟨wl_So_134, wi_Fl_loadWithin, ws_Fl_loadWithin, wc_Fl_loadWithin, wn_Fl⟩ ⟨by decide, by decide, by decide +kernel⟩ ⟨Nat.le_of_ble_eq_true rfl, Nat.le_of_ble_eq_true rfl⟩ hl.1 rfl (rest := []) rfl (Nat.le_of_ble_eq_true rfl) ⟨Nat.zero_le _, Nat.zero_le _⟩ d_So_part_30 (fun I3 a3 H locs hp3 hM => ?_)
    cases hp3
    have hld9 := ld_in (L := a1 6) (PD := a1 7) hRW1 hpz9
    refine lv_aload_n hx hb d_So_part_33 rfl (lv_at hl 1 rfl) ?_
    refine rd_get hC in_So hK hM.1 0 (cw_he (by omega) (cE_0)) rfl 5 (by decide) wf_So_41 rfl (v := .ref (X.1 5)) (rfl) d_So_part_34 ?_
    refine lv_iload_n hx hb d_So_part_37 rfl (lv_at hl 3 rfl) ?_
    refine lv_iload_n hx hb d_So_part_38 rfl (lv_at hl 4 rfl) ?_
    refine lv_iload hx hb d_So_part_39 (lv_at hl 5 rfl) ?_
    refine co_calli (np := 3) hC hK hM (k := 5) (by omega) (cE_5) rfl (c_Fl_pieceOf l D cT X I1 a1 x.toInt y.toInt z.toInt (pt (a1 6) (a1 (18 + 3 * b + 1)) 0 225) (a1 7) (a1 8) 0 n9 sz9 (I1 56) (VF (T b)) hld9.1 hld9.2 (by omega) (by omega) (by omega) (by omega) (by omega) (by omega)) rfl ⟨wl_So_153, wi_Fl_pieceOf, ws_Fl_pieceOf, wc_Fl_pieceOf, wn_Fl⟩ ⟨by decide, by decide, by decide +kernel⟩ ⟨Nat.le_of_ble_eq_true rfl, Nat.le_of_ble_eq_true rfl⟩ hl.1 rfl (rest := []) rfl (Nat.le_of_ble_eq_true rfl) ⟨Nat.zero_le _, Nat.zero_le _⟩ d_So_part_41 (fun rr4 I4 a4 H locs hp4 hM => ?_)
    obtain ⟨L4, P4, S4, lr4, n4, sz4, en4, e4, hF4, hr4⟩ := hp4
    cases e4
    refine hret _ _ _ _ _ _ _ d_So_part_44 hM ?_
    refine ⟨?_, CI_fk hCI hF4⟩
    rw [if_pos (by omega)]
    exact hr4
  · skip
    refine lv_iconst (v := (-1)) hx hb d_So_part_22 (by decide) ?_
    refine hret _ _ _ _ _ _ _ d_So_part_23 hM ?_
    refine ⟨?_, hCI⟩
    rw [if_neg (by omega)]
set_option maxHeartbeats 400000 in
set_option maxRecDepth 100000 in
theorem c_So_part_n (l : Launch) (D : va_G) (cT : Nat → ClassId) (X : CX) (I : Nat → Int32) (a : Nat → Nat → Int32) (b : Int32) (x : Int32) (y : Int32) (z : Int32) (nb : Nat) (T : Nat → TX) (tl : Nat) (tb : Nat → Nat) (ft : Int32) (la : Nat → Int32) (szz : Nat → Nat) (ce : Nat → Nat → Int32) (hCI : CI X I a nb T tl tb ft la szz ce) (hbb : ¬ (0 ≤ b.toInt ∧ b.toInt < nb)) : CMi l D cT X y_So_part b_So_part 6 (some .int) 26 865 [.ref (X.1 0), .int b, .int x, .int y, .int z] I a (fun r u => r = -1 ∧ u = (I, a)) := by
  refine co_enti (own := R_So) (by decide) rfl (Nat.le_of_ble_eq_true rfl) ?_
  intro p e s m args below meth c Q hC hK hM hret ls hl
  have hx := hC.1
  have hb := hC.2.1
  replace hl : lv_has ls 6 [(0, .ref (X.1 0)), (1, .int b), (2, .int x), (3, .int y), (4, .int z)] := hl
  refine lv_aload_n hx hb d_So_part_0 rfl (lv_at hl 0 rfl) ?_
  refine lv_iload_n hx hb d_So_part_1 rfl (lv_at hl 1 rfl) ?_
  refine co_callq (np := 1) hC hK hM (k := 0) (by omega) (cE_0) rfl (c_So_paintedBody_n l D cT X I a b nb T tl tb ft la szz ce hCI hbb) rfl ⟨wl_So_113, wi_So_paintedBody, ws_So_paintedBody, wc_So_paintedBody, wn_So⟩ ⟨by decide, by decide, by decide +kernel⟩ ⟨Nat.le_of_ble_eq_true rfl, Nat.le_of_ble_eq_true rfl⟩ hl.1 rfl (rest := []) rfl (Nat.le_of_ble_eq_true rfl) ⟨Nat.zero_le _, Nat.zero_le _⟩ d_So_part_2 (fun rr1 I1 a1 H locs hp1 hM => ?_)
  obtain ⟨hr1, hp1⟩ := hp1
  cases hp1
  subst hr1
  refine lv_astoreN (lv' := [(5, .null), (0, .ref (X.1 0)), (1, .int b), (2, .int x), (3, .int y), (4, .int z)]) hx hb d_So_part_5 hl (by decide) rfl (fun ls hl => ?_)
  refine lv_aloadN hx hb d_So_part_7 (lv_at hl 0 rfl) ?_
  refine lv_ifnullN (tgt := 22) hx hb d_So_part_9 (by decide) ?_
  refine lv_iconst (v := (-1)) hx hb d_So_part_22 (by decide) ?_
  exact hret _ _ _ _ _ _ _ d_So_part_23 hM (⟨rfl, rfl⟩)
set_option maxHeartbeats 400000 in
set_option maxRecDepth 100000 in
theorem c_So_slice_y (l : Launch) (D : va_G) (cT : Nat → ClassId) (X : CX) (I : Nat → Int32) (a : Nat → Nat → Int32) (b : Nat) (z : Int32) (what : Int32) (nb : Nat) (T : Nat → TX) (tl : Nat) (tb : Nat → Nat) (ft : Int32) (la : Nat → Int32) (szz : Nat → Nat) (ce : Nat → Nat → Int32) (hCI : CI X I a nb T tl tb ft la szz ce) (hbb : b < nb) : CMi l D cT X y_So_slice b_So_slice 5 (some .int) 26 865 [.ref (X.1 0), .int (nI b), .int z, .int what] I a (fun r u => (r = if -7 ≤ z.toInt ∧ z.toInt ≤ 7 then (if what = 0 then nI (slS (rwI (VF (T b))) z.toInt) else if what = 1 then nI (sm (olR (rwI (VF (T b))) z.toInt) 15) else if what = 2 then nI (cn (plS (ZV (VF (T b)) z.toInt)) 3375) else -1) else -1) ∧ CI X u.1 u.2 nb T tl tb ft la szz ce) := by
  refine co_enti (own := R_So) (by decide) rfl (Nat.le_of_ble_eq_true rfl) ?_
  intro p e s m args below meth c Q hC hK hM hret ls hl
  have hx := hC.1
  have hb := hC.2.1
  replace hl : lv_has ls 5 [(0, .ref (X.1 0)), (1, .int (nI b)), (2, .int z), (3, .int what)] := hl
  refine lv_aload_n hx hb d_So_slice_0 rfl (lv_at hl 0 rfl) ?_
  refine lv_iload_n hx hb d_So_slice_1 rfl (lv_at hl 1 rfl) ?_
  refine co_callq (np := 1) hC hK hM (k := 0) (by omega) (cE_0) rfl (c_So_paintedBody_y l D cT X I a b nb T tl tb ft la szz ce hCI hbb) rfl ⟨wl_So_113, wi_So_paintedBody, ws_So_paintedBody, wc_So_paintedBody, wn_So⟩ ⟨by decide, by decide, by decide +kernel⟩ ⟨Nat.le_of_ble_eq_true rfl, Nat.le_of_ble_eq_true rfl⟩ hl.1 rfl (rest := []) rfl (Nat.le_of_ble_eq_true rfl) ⟨Nat.zero_le _, Nat.zero_le _⟩ d_So_slice_2 (fun rr1 I1 a1 H locs hp1 hM => ?_)
  obtain ⟨ho1, hCI, hRW1, hKP1⟩ := hp1
  subst ho1
  replace hCI : CI X I1 a1 nb T tl tb ft la szz ce := hCI
  replace hRW1 : ∀ q, q < 225 → a1 (18 + 3 * b + 1) q = rwI (VF (T b)) q := hRW1
  have hbn1 : b < X.2.2.2.1 := by rw [hCI.1.2.1]; omega
  have hlo1 : ∀ q, q < 225 → lo16 (a1 (18 + 3 * b + 1) q) := fun q hq => by rw [hRW1 q hq]; exact lo_rwI
  refine lv_astore (lv' := [(4, .ref (X.1 (18 + 3 * b))), (0, .ref (X.1 0)), (1, .int (nI b)), (2, .int z), (3, .int what)]) hx hb d_So_slice_5 hl (by decide) rfl (fun ls hl => ?_)
  refine lv_aload hx hb d_So_slice_7 (lv_at hl 0 rfl) ?_
  refine lv_ifnull hx hb d_So_slice_9 ?_
  refine lv_iload_n hx hb d_So_slice_12 rfl (lv_at hl 3 rfl) ?_
  refine lv_bipush (v := 7) hx hb d_So_slice_13 (by decide) ?_
  refine st_calli (np := 2) hC (c_So_isNear l z 7 z.toInt (rfl) (by omega) (by omega)) ⟨wl_So_83, wt_So_isNear, wc_So_isNear, wn_So⟩ ⟨by decide, by decide, by decide +kernel⟩ ⟨Nat.le_of_ble_eq_true rfl, Nat.le_of_ble_eq_true rfl⟩ hl.1 rfl (rest := []) rfl (Nat.le_of_ble_eq_true rfl) ⟨Nat.zero_le _, Nat.zero_le _⟩ d_So_slice_15 (fun rr hrr => ?_)
  subst hrr
  refine bz_ne (tgt := 23) hx hb d_So_slice_18 (by decide) (fun h2 => ?_) (fun h2 => ?_)
  · skip
    rw [iI_of z] at hl
    refine lv_iload_n hx hb d_So_slice_23 rfl (lv_at hl 4 rfl) ?_
    by_cases h3_0 : what = 0
    · have ev : (what).toInt = 0 := by rw [h3_0]; rfl
      refine lv_tableIn (tgt := 52) hx hb d_So_slice_24 (by rw [ev]; decide) (by rw [ev]; decide) (by rw [ev]; rfl) (by decide) ?_
      refine lv_aload hx hb d_So_slice_52 (lv_at hl 0 rfl) ?_
      refine lv_iload_n hx hb d_So_slice_54 rfl (lv_at hl 3 rfl) ?_
      refine rd_call (np := 1) hC hK hM.1 (cw_he (by omega) (cE_B b)) rfl (c_Bo_sliceSize l D cT X I1 a1 b z.toInt hbn1 hlo1 (by omega) (by omega)) rfl ⟨wl_So_156, wi_Bo_sliceSize, ws_Bo_sliceSize, wc_Bo_sliceSize, wn_Bo⟩ ⟨by decide, by decide, by decide +kernel⟩ ⟨Nat.le_of_ble_eq_true rfl, Nat.le_of_ble_eq_true rfl⟩ hl.1 rfl (rest := []) rfl (Nat.le_of_ble_eq_true rfl) ⟨Nat.zero_le _, Nat.zero_le _⟩ d_So_slice_55 (fun rr hrr => ?_)
      replace hrr : rr = nI (slS (rwI (VF (T b))) z.toInt) := hrr.trans (congrArg nI (slS_c hRW1))
      subst hrr
      refine hret _ _ _ _ _ _ _ d_So_slice_58 hM ?_
      refine ⟨?_, hCI⟩
      rw [if_pos (by omega), h3_0]
      rfl
    by_cases h3_1 : what = 1
    · have ev : (what).toInt = 1 := by rw [h3_1]; rfl
      refine lv_tableIn (tgt := 59) hx hb d_So_slice_24 (by rw [ev]; decide) (by rw [ev]; decide) (by rw [ev]; rfl) (by decide) ?_
      refine lv_aload hx hb d_So_slice_59 (lv_at hl 0 rfl) ?_
      refine lv_iload_n hx hb d_So_slice_61 rfl (lv_at hl 3 rfl) ?_
      refine rd_call (np := 1) hC hK hM.1 (cw_he (by omega) (cE_B b)) rfl (c_Bo_outline l D cT X I1 a1 b z.toInt hbn1 hlo1 (by omega) (by omega)) rfl ⟨wl_So_159, wi_Bo_outline, ws_Bo_outline, wc_Bo_outline, wn_Bo⟩ ⟨by decide, by decide, by decide +kernel⟩ ⟨Nat.le_of_ble_eq_true rfl, Nat.le_of_ble_eq_true rfl⟩ hl.1 rfl (rest := []) rfl (Nat.le_of_ble_eq_true rfl) ⟨Nat.zero_le _, Nat.zero_le _⟩ d_So_slice_62 (fun rr hrr => ?_)
      replace hrr : rr = nI (sm (olR (rwI (VF (T b))) z.toInt) 15) := hrr.trans (by rw [olR_c hRW1])
      subst hrr
      refine hret _ _ _ _ _ _ _ d_So_slice_65 hM ?_
      refine ⟨?_, hCI⟩
      rw [if_pos (by omega), h3_1]
      rfl
    by_cases h3_2 : what = 2
    · have ev : (what).toInt = 2 := by rw [h3_2]; rfl
      refine lv_tableIn (tgt := 66) hx hb d_So_slice_24 (by rw [ev]; decide) (by rw [ev]; decide) (by rw [ev]; rfl) (by decide) ?_
      obtain ⟨⟨lr9, n9, sz9, q51, q54, q55⟩, hpz9⟩ := id hCI.2.1
      rw [fl_I q51 q54 q55, fl_A (a := a1)] at hM
      refine lv_aload_n hx hb d_So_slice_66 rfl (lv_at hl 1 rfl) ?_
      refine rd_get hC in_So hK hM.1 0 (cw_he (by omega) (cE_0)) rfl 5 (by decide) wf_So_41 rfl (v := .ref (X.1 5)) (rfl) d_So_slice_67 ?_
      refine lv_aload hx hb d_So_slice_70 (lv_at hl 0 rfl) ?_
      refine lv_iload_n hx hb d_So_slice_72 rfl (lv_at hl 3 rfl) ?_
      refine co_callv (np := 2) hC hK hM (k := 5) (by omega) (cE_5) rfl (c_Fl_loadSlice l D cT X I1 a1 b z.toInt (a1 6) (a1 7) (a1 8) lr9 n9 sz9 (I1 56) hbn1 (by omega) (by omega)) rfl ⟨wl_So_162, wi_Fl_loadSlice, ws_Fl_loadSlice, wc_Fl_loadSlice, wn_Fl⟩ ⟨by decide, by decide, by decide +kernel⟩ ⟨Nat.le_of_ble_eq_true rfl, Nat.le_of_ble_eq_true rfl⟩ hl.1 rfl (rest := []) rfl (Nat.le_of_ble_eq_true rfl) ⟨Nat.zero_le _, Nat.zero_le _⟩ d_So_slice_73 (fun I4 a4 H locs hp4 hM => ?_)
      cases hp4
      have hld9 := ld_sl (z := z.toInt) (L := a1 6) (PD := a1 7) hRW1 hpz9
      refine lv_aload_n hx hb d_So_slice_76 rfl (lv_at hl 1 rfl) ?_
      refine rd_get hC in_So hK hM.1 0 (cw_he (by omega) (cE_0)) rfl 5 (by decide) wf_So_41 rfl (v := .ref (X.1 5)) (rfl) d_So_slice_77 ?_
      refine co_calli (np := 0) hC hK hM (k := 5) (by omega) (cE_5) rfl (c_Fl_countPieces l D cT X I1 a1 (pt (a1 6) (fun q => if (↑(q / 15) : Int) + (-7) = z.toInt then a1 (18 + 3 * b + 1) q else 0) 0 225) (a1 7) (a1 8) 0 n9 sz9 (I1 56) (ZV (VF (T b)) z.toInt) hld9.1 hld9.2) rfl ⟨wl_So_138, wi_Fl_countPieces, ws_Fl_countPieces, wc_Fl_countPieces, wn_Fl⟩ ⟨by decide, by decide, by decide +kernel⟩ ⟨Nat.le_of_ble_eq_true rfl, Nat.le_of_ble_eq_true rfl⟩ hl.1 rfl (rest := []) rfl (Nat.le_of_ble_eq_true rfl) ⟨Nat.zero_le _, Nat.zero_le _⟩ d_So_slice_80 (fun rr5 I5 a5 H locs hp5 hM => ?_)
      obtain ⟨L5, P5, S5, lr5, n5, sz5, en5, e5, hF5, hr5⟩ := hp5
      cases e5
      refine hret _ _ _ _ _ _ _ d_So_slice_83 hM ?_
      refine ⟨?_, CI_fk hCI hF5⟩
      rw [if_pos (by omega), hr5, h3_2]
      rfl
    have ev : (what).toInt < 0 ∨ 2 < (what).toInt := by
      have z0 : (what).toInt ≠ 0 := fun q => h3_0 (Int32.toInt_inj.mp (q.trans (by rfl)))
      have z1 : (what).toInt ≠ 1 := fun q => h3_1 (Int32.toInt_inj.mp (q.trans (by rfl)))
      have z2 : (what).toInt ≠ 2 := fun q => h3_2 (Int32.toInt_inj.mp (q.trans (by rfl)))
      omega
    refine lv_tableOut (tgt := 84) hx hb d_So_slice_24 ev (by decide) ?_
    refine lv_iconst (v := (-1)) hx hb d_So_slice_84 (by decide) ?_
    refine hret _ _ _ _ _ _ _ d_So_slice_85 hM ?_
    refine ⟨?_, hCI⟩
    rw [if_pos (by omega), if_neg h3_0, if_neg h3_1, if_neg h3_2]
  · skip
    refine lv_iconst (v := (-1)) hx hb d_So_slice_21 (by decide) ?_
    refine hret _ _ _ _ _ _ _ d_So_slice_22 hM ?_
    refine ⟨?_, hCI⟩
    rw [if_neg (by omega)]
set_option maxHeartbeats 400000 in
set_option maxRecDepth 100000 in
theorem c_So_slice_n (l : Launch) (D : va_G) (cT : Nat → ClassId) (X : CX) (I : Nat → Int32) (a : Nat → Nat → Int32) (b : Int32) (z : Int32) (what : Int32) (nb : Nat) (T : Nat → TX) (tl : Nat) (tb : Nat → Nat) (ft : Int32) (la : Nat → Int32) (szz : Nat → Nat) (ce : Nat → Nat → Int32) (hCI : CI X I a nb T tl tb ft la szz ce) (hbb : ¬ (0 ≤ b.toInt ∧ b.toInt < nb)) : CMi l D cT X y_So_slice b_So_slice 5 (some .int) 26 865 [.ref (X.1 0), .int b, .int z, .int what] I a (fun r u => r = -1 ∧ u = (I, a)) := by
  refine co_enti (own := R_So) (by decide) rfl (Nat.le_of_ble_eq_true rfl) ?_
  intro p e s m args below meth c Q hC hK hM hret ls hl
  have hx := hC.1
  have hb := hC.2.1
  replace hl : lv_has ls 5 [(0, .ref (X.1 0)), (1, .int b), (2, .int z), (3, .int what)] := hl
  refine lv_aload_n hx hb d_So_slice_0 rfl (lv_at hl 0 rfl) ?_
  refine lv_iload_n hx hb d_So_slice_1 rfl (lv_at hl 1 rfl) ?_
  refine co_callq (np := 1) hC hK hM (k := 0) (by omega) (cE_0) rfl (c_So_paintedBody_n l D cT X I a b nb T tl tb ft la szz ce hCI hbb) rfl ⟨wl_So_113, wi_So_paintedBody, ws_So_paintedBody, wc_So_paintedBody, wn_So⟩ ⟨by decide, by decide, by decide +kernel⟩ ⟨Nat.le_of_ble_eq_true rfl, Nat.le_of_ble_eq_true rfl⟩ hl.1 rfl (rest := []) rfl (Nat.le_of_ble_eq_true rfl) ⟨Nat.zero_le _, Nat.zero_le _⟩ d_So_slice_2 (fun rr1 I1 a1 H locs hp1 hM => ?_)
  obtain ⟨hr1, hp1⟩ := hp1
  cases hp1
  subst hr1
  refine lv_astoreN (lv' := [(4, .null), (0, .ref (X.1 0)), (1, .int b), (2, .int z), (3, .int what)]) hx hb d_So_slice_5 hl (by decide) rfl (fun ls hl => ?_)
  refine lv_aloadN hx hb d_So_slice_7 (lv_at hl 0 rfl) ?_
  refine lv_ifnullN (tgt := 21) hx hb d_So_slice_9 (by decide) ?_
  refine lv_iconst (v := (-1)) hx hb d_So_slice_21 (by decide) ?_
  exact hret _ _ _ _ _ _ _ d_So_slice_22 hM (⟨rfl, rfl⟩)
