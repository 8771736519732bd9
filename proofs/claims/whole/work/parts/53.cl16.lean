/-! the class: two bodies, partings, rules, rays -/
theorem CI_part {X : CX} {I : Nat → Int32} {a : Nat → Nat → Int32} {nb : Nat} {T : Nat → TX} {tl : Nat} {tb : Nat → Nat} {ft : Int32} {la : Nat → Int32} {sz : Nat → Nat} {ce : Nat → Nat → Int32} {b : Nat} {f : Nat → Int32} (h : CI X I a nb T tl tb ft la sz ce) (hb : b < nb) (hf : FR5 f (pae (T b) rt0)) : CI X (upd I (10 * (18 + 3 * b) + 5) 1) (va_up a (18 + 3 * b + 2) f) nb T tl tb ft la sz ce := by
  refine CI_bd h hb (fun k hk => pk_un (by omega)) (fun k h1 h2 => va_up_ne _ _ h2) ?_
  obtain ⟨h1, h2, h3, h4, h5, h6⟩ := h.1.2.2.2.2 b hb
  refine ⟨h1, h2, h3, ?_, ?_, Or.inr ⟨pk_us, ?_⟩⟩
  · rw [pk_un (by omega)]; exact h4
  · rw [pk_un (by omega), va_up_ne _ _ (by omega)]; exact h5
  · rw [va_up_self]; exact hf
section PRT
variable {p : Program} {l : Launch} {e : Env} {RM : Room} {s : State} {m : MethodId} {args : Array Value} {below : List Frame} {meth : Method} {c : Code} {H H0 : Heap} {locs : List Loc} {cells slots : Nat} {Q : State → Prop} {cc : ByteArray} {pc nL : Nat} {ls : Array Slot} {rest : List Value} {own : String}
variable {D : va_G} {cT : Nat → ClassId} {A : Nat → Prop} {X : CX} {I : Nat → Int32} {a : Nat → Nat → Int32} {nb : Nat} {T : Nat → TX} {tl : Nat} {tb : Nat → Nat} {ft : Int32} {la : Nat → Int32} {sz : Nat → Nat} {ce : Nat → Nat → Int32}
theorem part_any {index : Nat} (hC : CallFix p m c cc nL s args GW own) (hK : KE D cT s) (hM : CO D cT A X I a H0 H locs) (b : Nat) (hCI : CI X I a nb T tl tb ft la sz ce) (hbb : b < nb) (what : Int32) (hw : 0 ≤ what.toInt ∧ what.toInt ≤ 4) (hwl : Cond.methodLink own index y_Bo_partedNumber ∈ GW) (hR : 36 + 1 ≤ RM.frames ∧ 8 + (2 + 11) + 1300 ≤ RM.locals) (hsz : ls.size = nL) (hcat : (rest.map fun v => v.category).sum ≤ 8) (hf : cells ≤ RM.cells ∧ slots ≤ RM.slots) (hdg : decode cc pc = .ok (.invokevirtual index, 3))
    (kk : ∀ (I' : Nat → Int32) (a' : Nat → Nat → Int32) (H1 : Heap) (locs1 : List Loc), CI X I' a' nb T tl tb ft la sz ce → CO D cT A X I' a' H0 H1 locs1 → W p l e RM s m args below meth c H1 locs1 cells slots Q (F0 m (pc + 3) ls (.int (iI (pae (T b) rt0 what.toInt.toNat)) :: rest))) : W p l e RM s m args below meth c H locs cells slots Q (F0 m pc ls (.int what :: .ref (X.1 (18 + 3 * b)) :: rest)) := by
  have hcb := hCI.1.2.2.2.2 b hbb
  have hbn : b < X.2.2.2.1 := by rw [hCI.1.2.1]; exact hbb
  obtain ⟨h1, h2, h3, h4, h5, h6⟩ := hcb
  rcases h6 with ⟨h6, h7⟩ | ⟨h6, h7⟩
  · refine co_calli (np := 1) hC hK hM (k := 18 + 3 * b) (by omega) (cE_B b) rfl (c_Bo_partedNumber_n l D cT X I a b what (T b) hbn hw h3 h1 h2 h6 h7) rfl ⟨hwl, wi_Bo_partedNumber, ws_Bo_partedNumber, wc_Bo_partedNumber, wn_Bo⟩ ⟨by decide, by decide, by decide +kernel⟩ hR hsz rfl (rest := rest) rfl hcat hf hdg (fun r I1 a1 H1 locs1 hp hM1 => ?_)
    obtain ⟨hr, f, hu, hF⟩ := hp
    cases hu
    subst hr
    exact kk _ _ H1 locs1 (CI_part hCI hbb hF) hM1
  · refine co_calli (np := 1) hC hK hM (k := 18 + 3 * b) (by omega) (cE_B b) rfl (c_Bo_partedNumber_y l D cT X I a b what (T b) hbn hw h6 h7) rfl ⟨hwl, wi_Bo_partedNumber, ws_Bo_partedNumber, wc_Bo_partedNumber, wn_Bo⟩ ⟨by decide, by decide, by decide +kernel⟩ hR hsz rfl (rest := rest) rfl hcat hf hdg (fun r I1 a1 H1 locs1 hp hM1 => ?_)
    obtain ⟨hr, hu⟩ := hp
    cases hu
    subst hr
    exact kk _ _ H1 locs1 hCI hM1
end PRT
/-- the value of a text at a point, its ends over a block -/
def vT (t : TX) (x y z : Int) : Int := (spT t (bx6 x x y y z z)).1
theorem boS_b (V V2 : Nat → Bool) : boS V V2 < 2147483648 := by
  have : boS V V2 ≤ (16 * 15) * 15 := sm_le (fun k _ => sm_le (fun j _ => cn_le _ _))
  omega
theorem siz_b (f : Nat → Int32) : siz f < 2147483648 := by
  have : siz f ≤ (16 * 15) * 15 := sm_le (fun k _ => sm_le (fun j _ => cn_le _ _))
  omega
set_option maxHeartbeats 400000 in
set_option maxRecDepth 100000 in
theorem c_So_parted_y (l : Launch) (D : va_G) (cT : Nat → ClassId) (X : CX) (I : Nat → Int32) (a : Nat → Nat → Int32) (b : Nat) (what : Int32) (nb : Nat) (T : Nat → TX) (tl : Nat) (tb : Nat → Nat) (ft : Int32) (la : Nat → Int32) (szz : Nat → Nat) (ce : Nat → Nat → Int32) (hCI : CI X I a nb T tl tb ft la szz ce) (hbb : b < nb) : CMi l D cT X y_So_parted b_So_parted 4 (some .int) 37 1321 [.ref (X.1 0), .int (nI b), .int what] I a (fun r u => (r = if 0 ≤ what.toInt ∧ what.toInt ≤ 4 then iI (pae (T b) rt0 what.toInt.toNat) else -1) ∧ CI X u.1 u.2 nb T tl tb ft la szz ce) := by
  refine co_enti (own := R_So) (by decide) rfl (Nat.le_of_ble_eq_true rfl) ?_
  intro p e s m args below meth c Q hC hK hM hret ls hl
  have hx := hC.1
  have hb := hC.2.1
  replace hl : lv_has ls 4 [(0, .ref (X.1 0)), (1, .int (nI b)), (2, .int what)] := hl
  refine lv_aload_n hx hb d_So_parted_0 rfl (lv_at hl 0 rfl) ?_
  refine lv_iload_n hx hb d_So_parted_1 rfl (lv_at hl 1 rfl) ?_
  refine rd_callq (np := 1) hC hK hM.1 (cw_he (by omega) (cE_0)) rfl (c_So_bodyNumber_y l D cT X I a b nb (by omega) (hCI.1.1) hCI.1.2.2.1 hCI.1.2.2.2.1) rfl ⟨wl_So_79, wi_So_bodyNumber, ws_So_bodyNumber, wc_So_bodyNumber, wn_So⟩ ⟨by decide, by decide, by decide +kernel⟩ ⟨Nat.le_of_ble_eq_true rfl, Nat.le_of_ble_eq_true rfl⟩ hl.1 rfl (rest := []) rfl (Nat.le_of_ble_eq_true rfl) ⟨Nat.zero_le _, Nat.zero_le _⟩ d_So_parted_2 (fun rr hrr => ?_)
  subst hrr
  refine lv_astore_n (lv' := [(3, .ref (X.1 (18 + 3 * b))), (0, .ref (X.1 0)), (1, .int (nI b)), (2, .int what)]) hx hb d_So_parted_5 rfl hl (by decide) rfl (fun ls hl => ?_)
  refine lv_aload_n hx hb d_So_parted_6 rfl (lv_at hl 0 rfl) ?_
  refine lv_ifnull hx hb d_So_parted_7 ?_
  refine lv_iload_n hx hb d_So_parted_10 rfl (lv_at hl 3 rfl) ?_
  refine lv_iconst (v := 0) hx hb d_So_parted_11 (by decide) ?_
  refine lv_iconst (v := 4) hx hb d_So_parted_12 (by decide) ?_
  refine st_calli (np := 3) hC (c_So_isBetween l what 0 4 what.toInt 0 4 rfl rfl rfl) ⟨wl_So_106, wt_So_isBetween, wc_So_isBetween, wn_So⟩ ⟨by decide, by decide, by decide +kernel⟩ ⟨Nat.le_of_ble_eq_true rfl, Nat.le_of_ble_eq_true rfl⟩ hl.1 rfl (rest := []) rfl (Nat.le_of_ble_eq_true rfl) ⟨Nat.zero_le _, Nat.zero_le _⟩ d_So_parted_13 (fun rr hrr => ?_)
  subst hrr
  refine bz_ne (tgt := 23) hx hb d_So_parted_16 (by decide) (fun h1 => ?_) (fun h1 => ?_)
  · skip
    refine lv_aload_n hx hb d_So_parted_23 rfl (lv_at hl 0 rfl) ?_
    refine lv_iload_n hx hb d_So_parted_24 rfl (lv_at hl 3 rfl) ?_
    refine part_any hC hK hM b hCI hbb what (by omega) wl_So_109 ⟨Nat.le_of_ble_eq_true rfl, Nat.le_of_ble_eq_true rfl⟩ hl.1 (rest := []) (Nat.le_of_ble_eq_true rfl) ⟨Nat.zero_le _, Nat.zero_le _⟩ d_So_parted_25 (fun I1 a1 H locs hCI hM => ?_)
    exact hret _ _ _ _ _ _ _ d_So_parted_28 hM (⟨by rw [if_pos (by omega)], hCI⟩)
  · skip
    refine lv_iconst (v := (-1)) hx hb d_So_parted_19 (by decide) ?_
    refine lv_goto (tgt := 28) hx hb d_So_parted_20 (by decide) ?_
    exact hret _ _ _ _ _ _ _ d_So_parted_28 hM (⟨by rw [if_neg (by omega)], hCI⟩)
set_option maxHeartbeats 400000 in
set_option maxRecDepth 100000 in
theorem c_So_parted_n (l : Launch) (D : va_G) (cT : Nat → ClassId) (X : CX) (I : Nat → Int32) (a : Nat → Nat → Int32) (b : Int32) (what : Int32) (nb : Nat) (T : Nat → TX) (tl : Nat) (tb : Nat → Nat) (ft : Int32) (la : Nat → Int32) (szz : Nat → Nat) (ce : Nat → Nat → Int32) (hCI : CI X I a nb T tl tb ft la szz ce) (hbb : ¬ (0 ≤ b.toInt ∧ b.toInt < nb)) : CMi l D cT X y_So_parted b_So_parted 4 (some .int) 37 1321 [.ref (X.1 0), .int b, .int what] I a (fun r u => r = -1 ∧ u = (I, a)) := by
  refine co_enti (own := R_So) (by decide) rfl (Nat.le_of_ble_eq_true rfl) ?_
  intro p e s m args below meth c Q hC hK hM hret ls hl
  have hx := hC.1
  have hb := hC.2.1
  replace hl : lv_has ls 4 [(0, .ref (X.1 0)), (1, .int b), (2, .int what)] := hl
  refine lv_aload_n hx hb d_So_parted_0 rfl (lv_at hl 0 rfl) ?_
  refine lv_iload_n hx hb d_So_parted_1 rfl (lv_at hl 1 rfl) ?_
  refine rd_callq (np := 1) hC hK hM.1 (cw_he (by omega) (cE_0)) rfl (c_So_bodyNumber_n l D cT X I a b nb hbb (hCI.1.1) hCI.1.2.2.1) rfl ⟨wl_So_79, wi_So_bodyNumber, ws_So_bodyNumber, wc_So_bodyNumber, wn_So⟩ ⟨by decide, by decide, by decide +kernel⟩ ⟨Nat.le_of_ble_eq_true rfl, Nat.le_of_ble_eq_true rfl⟩ hl.1 rfl (rest := []) rfl (Nat.le_of_ble_eq_true rfl) ⟨Nat.zero_le _, Nat.zero_le _⟩ d_So_parted_2 (fun rr hrr => ?_)
  subst hrr
  refine lv_astore_nN (lv' := [(3, .null), (0, .ref (X.1 0)), (1, .int b), (2, .int what)]) hx hb d_So_parted_5 rfl hl (by decide) rfl (fun ls hl => ?_)
  refine lv_aload_nN hx hb d_So_parted_6 rfl (lv_at hl 0 rfl) ?_
  refine lv_ifnullN (tgt := 19) hx hb d_So_parted_7 (by decide) ?_
  refine lv_iconst (v := (-1)) hx hb d_So_parted_19 (by decide) ?_
  refine lv_goto (tgt := 28) hx hb d_So_parted_20 (by decide) ?_
  exact hret _ _ _ _ _ _ _ d_So_parted_28 hM (⟨rfl, rfl⟩)
set_option maxHeartbeats 400000 in
set_option maxRecDepth 100000 in
theorem c_So_both_y (l : Launch) (D : va_G) (cT : Nat → ClassId) (X : CX) (I : Nat → Int32) (a : Nat → Nat → Int32) (b : Nat) (b2 : Nat) (what : Int32) (nb : Nat) (T : Nat → TX) (tl : Nat) (tb : Nat → Nat) (ft : Int32) (la : Nat → Int32) (szz : Nat → Nat) (ce : Nat → Nat → Int32) (hCI : CI X I a nb T tl tb ft la szz ce) (hbb : b < nb) (hb2 : b2 < nb) : CMi l D cT X y_So_both b_So_both 6 (some .int) 26 865 [.ref (X.1 0), .int (nI b), .int (nI b2), .int what] I a (fun r u => (r = if what = 0 then nI (boS (VF (T b)) (VF (T b2))) else if what = 1 then iI ((↑(siz (rwI (VF (T b)))) : Int) - (↑(boS (VF (T b)) (VF (T b2))) : Int)) else if what = 2 then iI ((↑(siz (rwI (VF (T b2)))) : Int) - (↑(boS (VF (T b)) (VF (T b2))) : Int)) else if what = 3 then (if siz (rwI (VF (T b2))) = boS (VF (T b)) (VF (T b2)) then 1 else 0) else -1) ∧ CI X u.1 u.2 nb T tl tb ft la szz ce) := by
  refine co_enti (own := R_So) (by decide) rfl (Nat.le_of_ble_eq_true rfl) ?_
  intro p e s m args below meth c Q hC hK hM hret ls hl
  have hx := hC.1
  have hb := hC.2.1
  replace hl : lv_has ls 6 [(0, .ref (X.1 0)), (1, .int (nI b)), (2, .int (nI b2)), (3, .int what)] := hl
  refine lv_aload_n hx hb d_So_both_0 rfl (lv_at hl 0 rfl) ?_
  refine lv_iload_n hx hb d_So_both_1 rfl (lv_at hl 1 rfl) ?_
  refine co_callq (np := 1) hC hK hM (k := 0) (by omega) (cE_0) rfl (c_So_paintedBody_y l D cT X I a b nb T tl tb ft la szz ce hCI hbb) rfl ⟨wl_So_113, wi_So_paintedBody, ws_So_paintedBody, wc_So_paintedBody, wn_So⟩ ⟨by decide, by decide, by decide +kernel⟩ ⟨Nat.le_of_ble_eq_true rfl, Nat.le_of_ble_eq_true rfl⟩ hl.1 rfl (rest := []) rfl (Nat.le_of_ble_eq_true rfl) ⟨Nat.zero_le _, Nat.zero_le _⟩ d_So_both_2 (fun rr1 I1 a1 H locs hp1 hM => ?_)
  obtain ⟨ho1, hCI, hRW1, hKP1⟩ := hp1
  subst ho1
  replace hCI : CI X I1 a1 nb T tl tb ft la szz ce := hCI
  replace hRW1 : ∀ q, q < 225 → a1 (18 + 3 * b + 1) q = rwI (VF (T b)) q := hRW1
  have hbn1 : b < X.2.2.2.1 := by rw [hCI.1.2.1]; omega
  have hlo1 : ∀ q, q < 225 → lo16 (a1 (18 + 3 * b + 1) q) := fun q hq => by rw [hRW1 q hq]; exact lo_rwI
  refine lv_astore (lv' := [(4, .ref (X.1 (18 + 3 * b))), (0, .ref (X.1 0)), (1, .int (nI b)), (2, .int (nI b2)), (3, .int what)]) hx hb d_So_both_5 hl (by decide) rfl (fun ls hl => ?_)
  refine lv_aload_n hx hb d_So_both_7 rfl (lv_at hl 1 rfl) ?_
  refine lv_iload_n hx hb d_So_both_8 rfl (lv_at hl 3 rfl) ?_
  refine co_callq (np := 1) hC hK hM (k := 0) (by omega) (cE_0) rfl (c_So_paintedBody_y l D cT X I1 a1 b2 nb T tl tb ft la szz ce hCI hb2) rfl ⟨wl_So_113, wi_So_paintedBody, ws_So_paintedBody, wc_So_paintedBody, wn_So⟩ ⟨by decide, by decide, by decide +kernel⟩ ⟨Nat.le_of_ble_eq_true rfl, Nat.le_of_ble_eq_true rfl⟩ hl.1 rfl (rest := []) rfl (Nat.le_of_ble_eq_true rfl) ⟨Nat.zero_le _, Nat.zero_le _⟩ d_So_both_9 (fun rr2 I2 a2 H locs hp2 hM => ?_)
  obtain ⟨ho2, hCI, hRW2, hKP2⟩ := hp2
  subst ho2
  replace hCI : CI X I2 a2 nb T tl tb ft la szz ce := hCI
  replace hRW2 : ∀ q, q < 225 → a2 (18 + 3 * b2 + 1) q = rwI (VF (T b2)) q := hRW2
  have hbn2 : b2 < X.2.2.2.1 := by rw [hCI.1.2.1]; omega
  have hlo2 : ∀ q, q < 225 → lo16 (a2 (18 + 3 * b2 + 1) q) := fun q hq => by rw [hRW2 q hq]; exact lo_rwI
  refine lv_astore (lv' := [(5, .ref (X.1 (18 + 3 * b2))), (4, .ref (X.1 (18 + 3 * b))), (0, .ref (X.1 0)), (1, .int (nI b)), (2, .int (nI b2)), (3, .int what)]) hx hb d_So_both_12 hl (by decide) rfl (fun ls hl => ?_)
  have hRA : ∀ q, q < 225 → a2 (18 + 3 * b + 1) q = rwI (VF (T b)) q := hKP2 b hbb hRW1
  have hRB : ∀ q, q < 225 → a2 (18 + 3 * b2 + 1) q = rwI (VF (T b2)) q := hRW2
  have hlA : ∀ q, q < 225 → lo16 (a2 (18 + 3 * b + 1) q) := fun q hq => by rw [hRA q hq]; exact lo_rwI
  have hb91 := boS_b (VF (T b)) (VF (T b2))
  have hb92 := siz_b (rwI (VF (T b2)))
  refine lv_aload hx hb d_So_both_14 (lv_at hl 1 rfl) ?_
  refine lv_ifnull hx hb d_So_both_16 ?_
  refine lv_aload hx hb d_So_both_19 (lv_at hl 0 rfl) ?_
  refine lv_ifnonnull (tgt := 26) hx hb d_So_both_21 (by decide) ?_
  refine lv_iload_n hx hb d_So_both_26 rfl (lv_at hl 5 rfl) ?_
  by_cases h3_0 : what = 0
  · have ev : (what).toInt = 0 := by rw [h3_0]; rfl
    refine lv_tableIn (tgt := 56) hx hb d_So_both_27 (by rw [ev]; decide) (by rw [ev]; decide) (by rw [ev]; rfl) (by decide) ?_
    refine lv_aload hx hb d_So_both_56 (lv_at hl 1 rfl) ?_
    refine lv_aload hx hb d_So_both_58 (lv_at hl 0 rfl) ?_
    refine rd_call (np := 1) hC hK hM.1 (cw_he (by omega) (cE_B b)) rfl (c_Bo_shared l D cT X I2 a2 b b2 hbn1 hlA hbn2) rfl ⟨wl_So_172, wi_Bo_shared, ws_Bo_shared, wc_Bo_shared, wn_Bo⟩ ⟨by decide, by decide, by decide +kernel⟩ ⟨Nat.le_of_ble_eq_true rfl, Nat.le_of_ble_eq_true rfl⟩ hl.1 rfl (rest := []) rfl (Nat.le_of_ble_eq_true rfl) ⟨Nat.zero_le _, Nat.zero_le _⟩ d_So_both_60 (fun rr hrr => ?_)
    replace hrr : rr = nI (boS (VF (T b)) (VF (T b2))) := hrr.trans (by unfold boS; simp only [shR_c hRA hRB])
    subst hrr
    refine hret _ _ _ _ _ _ _ d_So_both_63 hM ?_
    refine ⟨?_, hCI⟩
    rw [h3_0]
    rfl
  by_cases h3_1 : what = 1
  · have ev : (what).toInt = 1 := by rw [h3_1]; rfl
    refine lv_tableIn (tgt := 64) hx hb d_So_both_27 (by rw [ev]; decide) (by rw [ev]; decide) (by rw [ev]; rfl) (by decide) ?_
    refine lv_aload hx hb d_So_both_64 (lv_at hl 1 rfl) ?_
    refine rd_call (np := 0) hC hK hM.1 (cw_he (by omega) (cE_B b)) rfl (c_Bo_size l D cT X I2 a2 b hbn1 hlA) rfl ⟨wl_So_116, wi_Bo_size, ws_Bo_size, wc_Bo_size, wn_Bo⟩ ⟨by decide, by decide, by decide +kernel⟩ ⟨Nat.le_of_ble_eq_true rfl, Nat.le_of_ble_eq_true rfl⟩ hl.1 rfl (rest := []) rfl (Nat.le_of_ble_eq_true rfl) ⟨Nat.zero_le _, Nat.zero_le _⟩ d_So_both_66 (fun rr hrr => ?_)
    replace hrr : rr = nI (siz (rwI (VF (T b)))) := hrr.trans (congrArg nI (siz_c hRA))
    subst hrr
    refine lv_aload hx hb d_So_both_69 (lv_at hl 1 rfl) ?_
    refine lv_aload hx hb d_So_both_71 (lv_at hl 0 rfl) ?_
    refine rd_call (np := 1) hC hK hM.1 (cw_he (by omega) (cE_B b)) rfl (c_Bo_shared l D cT X I2 a2 b b2 hbn1 hlA hbn2) rfl ⟨wl_So_172, wi_Bo_shared, ws_Bo_shared, wc_Bo_shared, wn_Bo⟩ ⟨by decide, by decide, by decide +kernel⟩ ⟨Nat.le_of_ble_eq_true rfl, Nat.le_of_ble_eq_true rfl⟩ hl.1 rfl (rest := [.int (nI (siz (rwI (VF (T b)))))]) rfl (Nat.le_of_ble_eq_true rfl) ⟨Nat.zero_le _, Nat.zero_le _⟩ d_So_both_73 (fun rr hrr => ?_)
    replace hrr : rr = nI (boS (VF (T b)) (VF (T b2))) := hrr.trans (by unfold boS; simp only [shR_c hRA hRB])
    subst hrr
    refine lv_isub hx hb d_So_both_76 ?_
    refine topi_eq (iI_sub (↑(siz (rwI (VF (T b)))) : Int) (↑(boS (VF (T b)) (VF (T b2))) : Int)) ?_
    refine hret _ _ _ _ _ _ _ d_So_both_77 hM ?_
    refine ⟨?_, hCI⟩
    rw [h3_1]
    rfl
  by_cases h3_2 : what = 2
  · have ev : (what).toInt = 2 := by rw [h3_2]; rfl
    refine lv_tableIn (tgt := 78) hx hb d_So_both_27 (by rw [ev]; decide) (by rw [ev]; decide) (by rw [ev]; rfl) (by decide) ?_
    refine lv_aload hx hb d_So_both_78 (lv_at hl 0 rfl) ?_
    refine rd_call (np := 0) hC hK hM.1 (cw_he (by omega) (cE_B b2)) rfl (c_Bo_size l D cT X I2 a2 b2 hbn2 hlo2) rfl ⟨wl_So_116, wi_Bo_size, ws_Bo_size, wc_Bo_size, wn_Bo⟩ ⟨by decide, by decide, by decide +kernel⟩ ⟨Nat.le_of_ble_eq_true rfl, Nat.le_of_ble_eq_true rfl⟩ hl.1 rfl (rest := []) rfl (Nat.le_of_ble_eq_true rfl) ⟨Nat.zero_le _, Nat.zero_le _⟩ d_So_both_80 (fun rr hrr => ?_)
    replace hrr : rr = nI (siz (rwI (VF (T b2)))) := hrr.trans (congrArg nI (siz_c hRB))
    subst hrr
    refine lv_aload hx hb d_So_both_83 (lv_at hl 1 rfl) ?_
    refine lv_aload hx hb d_So_both_85 (lv_at hl 0 rfl) ?_
    refine rd_call (np := 1) hC hK hM.1 (cw_he (by omega) (cE_B b)) rfl (c_Bo_shared l D cT X I2 a2 b b2 hbn1 hlA hbn2) rfl ⟨wl_So_172, wi_Bo_shared, ws_Bo_shared, wc_Bo_shared, wn_Bo⟩ ⟨by decide, by decide, by decide +kernel⟩ ⟨Nat.le_of_ble_eq_true rfl, Nat.le_of_ble_eq_true rfl⟩ hl.1 rfl (rest := [.int (nI (siz (rwI (VF (T b2)))))]) rfl (Nat.le_of_ble_eq_true rfl) ⟨Nat.zero_le _, Nat.zero_le _⟩ d_So_both_87 (fun rr hrr => ?_)
    replace hrr : rr = nI (boS (VF (T b)) (VF (T b2))) := hrr.trans (by unfold boS; simp only [shR_c hRA hRB])
    subst hrr
    refine lv_isub hx hb d_So_both_90 ?_
    refine topi_eq (iI_sub (↑(siz (rwI (VF (T b2)))) : Int) (↑(boS (VF (T b)) (VF (T b2))) : Int)) ?_
    refine hret _ _ _ _ _ _ _ d_So_both_91 hM ?_
    refine ⟨?_, hCI⟩
    rw [h3_2]
    rfl
  by_cases h3_3 : what = 3
  · have ev : (what).toInt = 3 := by rw [h3_3]; rfl
    refine lv_tableIn (tgt := 92) hx hb d_So_both_27 (by rw [ev]; decide) (by rw [ev]; decide) (by rw [ev]; rfl) (by decide) ?_
    refine lv_aload hx hb d_So_both_92 (lv_at hl 0 rfl) ?_
    refine rd_call (np := 0) hC hK hM.1 (cw_he (by omega) (cE_B b2)) rfl (c_Bo_size l D cT X I2 a2 b2 hbn2 hlo2) rfl ⟨wl_So_116, wi_Bo_size, ws_Bo_size, wc_Bo_size, wn_Bo⟩ ⟨by decide, by decide, by decide +kernel⟩ ⟨Nat.le_of_ble_eq_true rfl, Nat.le_of_ble_eq_true rfl⟩ hl.1 rfl (rest := []) rfl (Nat.le_of_ble_eq_true rfl) ⟨Nat.zero_le _, Nat.zero_le _⟩ d_So_both_94 (fun rr hrr => ?_)
    replace hrr : rr = nI (siz (rwI (VF (T b2)))) := hrr.trans (congrArg nI (siz_c hRB))
    subst hrr
    refine lv_aload hx hb d_So_both_97 (lv_at hl 1 rfl) ?_
    refine lv_aload hx hb d_So_both_99 (lv_at hl 0 rfl) ?_
    refine rd_call (np := 1) hC hK hM.1 (cw_he (by omega) (cE_B b)) rfl (c_Bo_shared l D cT X I2 a2 b b2 hbn1 hlA hbn2) rfl ⟨wl_So_172, wi_Bo_shared, ws_Bo_shared, wc_Bo_shared, wn_Bo⟩ ⟨by decide, by decide, by decide +kernel⟩ ⟨Nat.le_of_ble_eq_true rfl, Nat.le_of_ble_eq_true rfl⟩ hl.1 rfl (rest := [.int (nI (siz (rwI (VF (T b2)))))]) rfl (Nat.le_of_ble_eq_true rfl) ⟨Nat.zero_le _, Nat.zero_le _⟩ d_So_both_101 (fun rr hrr => ?_)
    replace hrr : rr = nI (boS (VF (T b)) (VF (T b2))) := hrr.trans (by unfold boS; simp only [shR_c hRA hRB])
    subst hrr
    refine nc_ne hx hb (siz (rwI (VF (T b2)))) (boS (VF (T b)) (VF (T b2))) (by omega) (by omega) d_So_both_104 (tgt := 111) (by decide) (fun h4 => ?_) (fun h4 => ?_)
    · skip
      refine lv_iconst (v := 0) hx hb d_So_both_111 (by decide) ?_
      refine hret _ _ _ _ _ _ _ d_So_both_112 hM ?_
      refine ⟨?_, hCI⟩
      rw [h3_3]
      exact (if_neg h4).symm
    · skip
      refine lv_iconst (v := 1) hx hb d_So_both_107 (by decide) ?_
      refine lv_goto (tgt := 112) hx hb d_So_both_108 (by decide) ?_
      refine hret _ _ _ _ _ _ _ d_So_both_112 hM ?_
      refine ⟨?_, hCI⟩
      rw [h3_3]
      exact (if_pos h4).symm
  have ev : (what).toInt < 0 ∨ 3 < (what).toInt := by
    have z0 : (what).toInt ≠ 0 := fun q => h3_0 (Int32.toInt_inj.mp (q.trans (by rfl)))
    have z1 : (what).toInt ≠ 1 := fun q => h3_1 (Int32.toInt_inj.mp (q.trans (by rfl)))
    have z2 : (what).toInt ≠ 2 := fun q => h3_2 (Int32.toInt_inj.mp (q.trans (by rfl)))
    have z3 : (what).toInt ≠ 3 := fun q => h3_3 (Int32.toInt_inj.mp (q.trans (by rfl)))
    omega
  refine lv_tableOut (tgt := 113) hx hb d_So_both_27 ev (by decide) ?_
  refine lv_iconst (v := (-1)) hx hb d_So_both_113 (by decide) ?_
  refine hret _ _ _ _ _ _ _ d_So_both_114 hM ?_
  refine ⟨?_, hCI⟩
  rw [if_neg h3_0, if_neg h3_1, if_neg h3_2, if_neg h3_3]
set_option maxHeartbeats 400000 in
set_option maxRecDepth 100000 in
theorem c_So_both_n (l : Launch) (D : va_G) (cT : Nat → ClassId) (X : CX) (I : Nat → Int32) (a : Nat → Nat → Int32) (b : Int32) (b2 : Int32) (what : Int32) (nb : Nat) (T : Nat → TX) (tl : Nat) (tb : Nat → Nat) (ft : Int32) (la : Nat → Int32) (szz : Nat → Nat) (ce : Nat → Nat → Int32) (hCI : CI X I a nb T tl tb ft la szz ce) (hbb : ¬ (0 ≤ b.toInt ∧ b.toInt < nb)) (hb2 : ¬ (0 ≤ b2.toInt ∧ b2.toInt < nb)) : CMi l D cT X y_So_both b_So_both 6 (some .int) 26 865 [.ref (X.1 0), .int b, .int b2, .int what] I a (fun r u => r = -1 ∧ u = (I, a)) := by
  refine co_enti (own := R_So) (by decide) rfl (Nat.le_of_ble_eq_true rfl) ?_
  intro p e s m args below meth c Q hC hK hM hret ls hl
  have hx := hC.1
  have hb := hC.2.1
  replace hl : lv_has ls 6 [(0, .ref (X.1 0)), (1, .int b), (2, .int b2), (3, .int what)] := hl
  refine lv_aload_n hx hb d_So_both_0 rfl (lv_at hl 0 rfl) ?_
  refine lv_iload_n hx hb d_So_both_1 rfl (lv_at hl 1 rfl) ?_
  refine co_callq (np := 1) hC hK hM (k := 0) (by omega) (cE_0) rfl (c_So_paintedBody_n l D cT X I a b nb T tl tb ft la szz ce hCI hbb) rfl ⟨wl_So_113, wi_So_paintedBody, ws_So_paintedBody, wc_So_paintedBody, wn_So⟩ ⟨by decide, by decide, by decide +kernel⟩ ⟨Nat.le_of_ble_eq_true rfl, Nat.le_of_ble_eq_true rfl⟩ hl.1 rfl (rest := []) rfl (Nat.le_of_ble_eq_true rfl) ⟨Nat.zero_le _, Nat.zero_le _⟩ d_So_both_2 (fun rr1 I1 a1 H locs hp1 hM => ?_)
  obtain ⟨hr1, hp1⟩ := hp1
  cases hp1
  subst hr1
  refine lv_astoreN (lv' := [(4, .null), (0, .ref (X.1 0)), (1, .int b), (2, .int b2), (3, .int what)]) hx hb d_So_both_5 hl (by decide) rfl (fun ls hl => ?_)
  refine lv_aload_n hx hb d_So_both_7 rfl (lv_at hl 1 rfl) ?_
  refine lv_iload_n hx hb d_So_both_8 rfl (lv_at hl 3 rfl) ?_
  refine co_callq (np := 1) hC hK hM (k := 0) (by omega) (cE_0) rfl (c_So_paintedBody_n l D cT X I a b2 nb T tl tb ft la szz ce hCI hb2) rfl ⟨wl_So_113, wi_So_paintedBody, ws_So_paintedBody, wc_So_paintedBody, wn_So⟩ ⟨by decide, by decide, by decide +kernel⟩ ⟨Nat.le_of_ble_eq_true rfl, Nat.le_of_ble_eq_true rfl⟩ hl.1 rfl (rest := []) rfl (Nat.le_of_ble_eq_true rfl) ⟨Nat.zero_le _, Nat.zero_le _⟩ d_So_both_9 (fun rr2 I2 a2 H locs hp2 hM => ?_)
  obtain ⟨hr2, hp2⟩ := hp2
  cases hp2
  subst hr2
  refine lv_astoreN (lv' := [(5, .null), (4, .null), (0, .ref (X.1 0)), (1, .int b), (2, .int b2), (3, .int what)]) hx hb d_So_both_12 hl (by decide) rfl (fun ls hl => ?_)
  refine lv_aloadN hx hb d_So_both_14 (lv_at hl 1 rfl) ?_
  refine lv_ifnullN (tgt := 24) hx hb d_So_both_16 (by decide) ?_
  refine lv_iconst (v := (-1)) hx hb d_So_both_24 (by decide) ?_
  exact hret _ _ _ _ _ _ _ d_So_both_25 hM (⟨rfl, rfl⟩)
set_option maxHeartbeats 400000 in
set_option maxRecDepth 100000 in
theorem c_So_both_ny (l : Launch) (D : va_G) (cT : Nat → ClassId) (X : CX) (I : Nat → Int32) (a : Nat → Nat → Int32) (b : Int32) (b2 : Nat) (what : Int32) (nb : Nat) (T : Nat → TX) (tl : Nat) (tb : Nat → Nat) (ft : Int32) (la : Nat → Int32) (szz : Nat → Nat) (ce : Nat → Nat → Int32) (hCI : CI X I a nb T tl tb ft la szz ce) (hbb : ¬ (0 ≤ b.toInt ∧ b.toInt < nb)) (hb2 : b2 < nb) : CMi l D cT X y_So_both b_So_both 6 (some .int) 26 865 [.ref (X.1 0), .int b, .int (nI b2), .int what] I a (fun r u => r = -1 ∧ CI X u.1 u.2 nb T tl tb ft la szz ce) := by
  refine co_enti (own := R_So) (by decide) rfl (Nat.le_of_ble_eq_true rfl) ?_
  intro p e s m args below meth c Q hC hK hM hret ls hl
  have hx := hC.1
  have hb := hC.2.1
  replace hl : lv_has ls 6 [(0, .ref (X.1 0)), (1, .int b), (2, .int (nI b2)), (3, .int what)] := hl
  refine lv_aload_n hx hb d_So_both_0 rfl (lv_at hl 0 rfl) ?_
  refine lv_iload_n hx hb d_So_both_1 rfl (lv_at hl 1 rfl) ?_
  refine co_callq (np := 1) hC hK hM (k := 0) (by omega) (cE_0) rfl (c_So_paintedBody_n l D cT X I a b nb T tl tb ft la szz ce hCI hbb) rfl ⟨wl_So_113, wi_So_paintedBody, ws_So_paintedBody, wc_So_paintedBody, wn_So⟩ ⟨by decide, by decide, by decide +kernel⟩ ⟨Nat.le_of_ble_eq_true rfl, Nat.le_of_ble_eq_true rfl⟩ hl.1 rfl (rest := []) rfl (Nat.le_of_ble_eq_true rfl) ⟨Nat.zero_le _, Nat.zero_le _⟩ d_So_both_2 (fun rr1 I1 a1 H locs hp1 hM => ?_)
  obtain ⟨hr1, hp1⟩ := hp1
  cases hp1
  subst hr1
  refine lv_astoreN (lv' := [(4, .null), (0, .ref (X.1 0)), (1, .int b), (2, .int (nI b2)), (3, .int what)]) hx hb d_So_both_5 hl (by decide) rfl (fun ls hl => ?_)
  refine lv_aload_n hx hb d_So_both_7 rfl (lv_at hl 1 rfl) ?_
  refine lv_iload_n hx hb d_So_both_8 rfl (lv_at hl 3 rfl) ?_
  refine co_callq (np := 1) hC hK hM (k := 0) (by omega) (cE_0) rfl (c_So_paintedBody_y l D cT X I a b2 nb T tl tb ft la szz ce hCI hb2) rfl ⟨wl_So_113, wi_So_paintedBody, ws_So_paintedBody, wc_So_paintedBody, wn_So⟩ ⟨by decide, by decide, by decide +kernel⟩ ⟨Nat.le_of_ble_eq_true rfl, Nat.le_of_ble_eq_true rfl⟩ hl.1 rfl (rest := []) rfl (Nat.le_of_ble_eq_true rfl) ⟨Nat.zero_le _, Nat.zero_le _⟩ d_So_both_9 (fun rr2 I2 a2 H locs hp2 hM => ?_)
  obtain ⟨ho2, hCI, hRW2, hKP2⟩ := hp2
  subst ho2
  replace hCI : CI X I2 a2 nb T tl tb ft la szz ce := hCI
  replace hRW2 : ∀ q, q < 225 → a2 (18 + 3 * b2 + 1) q = rwI (VF (T b2)) q := hRW2
  have hbn2 : b2 < X.2.2.2.1 := by rw [hCI.1.2.1]; omega
  have hlo2 : ∀ q, q < 225 → lo16 (a2 (18 + 3 * b2 + 1) q) := fun q hq => by rw [hRW2 q hq]; exact lo_rwI
  refine lv_astore (lv' := [(5, .ref (X.1 (18 + 3 * b2))), (4, .null), (0, .ref (X.1 0)), (1, .int b), (2, .int (nI b2)), (3, .int what)]) hx hb d_So_both_12 hl (by decide) rfl (fun ls hl => ?_)
  refine lv_aloadN hx hb d_So_both_14 (lv_at hl 1 rfl) ?_
  refine lv_ifnullN (tgt := 24) hx hb d_So_both_16 (by decide) ?_
  refine lv_iconst (v := (-1)) hx hb d_So_both_24 (by decide) ?_
  exact hret _ _ _ _ _ _ _ d_So_both_25 hM (⟨rfl, hCI⟩)
set_option maxHeartbeats 400000 in
set_option maxRecDepth 100000 in
theorem c_So_both_yn (l : Launch) (D : va_G) (cT : Nat → ClassId) (X : CX) (I : Nat → Int32) (a : Nat → Nat → Int32) (b : Nat) (b2 : Int32) (what : Int32) (nb : Nat) (T : Nat → TX) (tl : Nat) (tb : Nat → Nat) (ft : Int32) (la : Nat → Int32) (szz : Nat → Nat) (ce : Nat → Nat → Int32) (hCI : CI X I a nb T tl tb ft la szz ce) (hbb : b < nb) (hb2 : ¬ (0 ≤ b2.toInt ∧ b2.toInt < nb)) : CMi l D cT X y_So_both b_So_both 6 (some .int) 26 865 [.ref (X.1 0), .int (nI b), .int b2, .int what] I a (fun r u => r = -1 ∧ CI X u.1 u.2 nb T tl tb ft la szz ce) := by
  refine co_enti (own := R_So) (by decide) rfl (Nat.le_of_ble_eq_true rfl) ?_
  intro p e s m args below meth c Q hC hK hM hret ls hl
  have hx := hC.1
  have hb := hC.2.1
  replace hl : lv_has ls 6 [(0, .ref (X.1 0)), (1, .int (nI b)), (2, .int b2), (3, .int what)] := hl
  refine lv_aload_n hx hb d_So_both_0 rfl (lv_at hl 0 rfl) ?_
  refine lv_iload_n hx hb d_So_both_1 rfl (lv_at hl 1 rfl) ?_
  refine co_callq (np := 1) hC hK hM (k := 0) (by omega) (cE_0) rfl (c_So_paintedBody_y l D cT X I a b nb T tl tb ft la szz ce hCI hbb) rfl ⟨wl_So_113, wi_So_paintedBody, ws_So_paintedBody, wc_So_paintedBody, wn_So⟩ ⟨by decide, by decide, by decide +kernel⟩ ⟨Nat.le_of_ble_eq_true rfl, Nat.le_of_ble_eq_true rfl⟩ hl.1 rfl (rest := []) rfl (Nat.le_of_ble_eq_true rfl) ⟨Nat.zero_le _, Nat.zero_le _⟩ d_So_both_2 (fun rr1 I1 a1 H locs hp1 hM => ?_)
  obtain ⟨ho1, hCI, hRW1, hKP1⟩ := hp1
  subst ho1
  replace hCI : CI X I1 a1 nb T tl tb ft la szz ce := hCI
  replace hRW1 : ∀ q, q < 225 → a1 (18 + 3 * b + 1) q = rwI (VF (T b)) q := hRW1
  have hbn1 : b < X.2.2.2.1 := by rw [hCI.1.2.1]; omega
  have hlo1 : ∀ q, q < 225 → lo16 (a1 (18 + 3 * b + 1) q) := fun q hq => by rw [hRW1 q hq]; exact lo_rwI
  refine lv_astore (lv' := [(4, .ref (X.1 (18 + 3 * b))), (0, .ref (X.1 0)), (1, .int (nI b)), (2, .int b2), (3, .int what)]) hx hb d_So_both_5 hl (by decide) rfl (fun ls hl => ?_)
  refine lv_aload_n hx hb d_So_both_7 rfl (lv_at hl 1 rfl) ?_
  refine lv_iload_n hx hb d_So_both_8 rfl (lv_at hl 3 rfl) ?_
  refine co_callq (np := 1) hC hK hM (k := 0) (by omega) (cE_0) rfl (c_So_paintedBody_n l D cT X I1 a1 b2 nb T tl tb ft la szz ce hCI hb2) rfl ⟨wl_So_113, wi_So_paintedBody, ws_So_paintedBody, wc_So_paintedBody, wn_So⟩ ⟨by decide, by decide, by decide +kernel⟩ ⟨Nat.le_of_ble_eq_true rfl, Nat.le_of_ble_eq_true rfl⟩ hl.1 rfl (rest := []) rfl (Nat.le_of_ble_eq_true rfl) ⟨Nat.zero_le _, Nat.zero_le _⟩ d_So_both_9 (fun rr2 I2 a2 H locs hp2 hM => ?_)
  obtain ⟨hr2, hp2⟩ := hp2
  cases hp2
  subst hr2
  refine lv_astoreN (lv' := [(5, .null), (4, .ref (X.1 (18 + 3 * b))), (0, .ref (X.1 0)), (1, .int (nI b)), (2, .int b2), (3, .int what)]) hx hb d_So_both_12 hl (by decide) rfl (fun ls hl => ?_)
  refine lv_aload hx hb d_So_both_14 (lv_at hl 1 rfl) ?_
  refine lv_ifnull hx hb d_So_both_16 ?_
  refine lv_aloadN hx hb d_So_both_19 (lv_at hl 0 rfl) ?_
  refine lv_ifnonnullN hx hb d_So_both_21 ?_
  refine lv_iconst (v := (-1)) hx hb d_So_both_24 (by decide) ?_
  exact hret _ _ _ _ _ _ _ d_So_both_25 hM (⟨rfl, hCI⟩)
