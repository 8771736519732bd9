/-! the reference: parted, the skin -/
def tE (x y z ax j : Nat) : Bool := j == 4096 * (if ax = 0 then 1 else 0) + (256 * z + 16 * y + x) || (j == 4096 * (if ax = 0 then 1 else 0) + (256 * z + 16 * y + x) + (if ax = 2 then 16 else 256) || (j == 4096 * (if ax = 2 then 1 else 2) + (256 * z + 16 * y + x) || j == 4096 * (if ax = 2 then 1 else 2) + (256 * z + 16 * y + x) + (if ax = 0 then 16 else 1)))
def tC (x y z ax j : Nat) : Bool := j == 256 * z + 16 * y + x || (j == 256 * z + 16 * y + x + (if ax = 0 then 16 else 1) || (j == 256 * z + 16 * y + x + (if ax = 2 then 16 else 256) || j == 256 * z + 16 * y + x + (if ax = 0 then 16 else 1) + (if ax = 2 then 16 else 256)))
theorem up4e (f : Nat → Int32) {i1 i2 i3 i4 j : Nat} {b : Bool} (hb : b = true ↔ (j = i1 ∨ j = i2 ∨ j = i3 ∨ j = i4)) : upd (upd (upd (upd f i1 (f i1 + 1)) i2 (f i2 + 1)) i3 (f i3 + 1)) i4 (f i4 + 1) j = if b = true then f j + 1 else f j := by
  unfold upd
  by_cases h4 : j = i4
  · rw [if_pos h4, if_pos (hb.mpr (by omega)), h4]
  · rw [if_neg h4]
    by_cases h3 : j = i3
    · rw [if_pos h3, if_pos (hb.mpr (by omega)), h3]
    · rw [if_neg h3]
      by_cases h2 : j = i2
      · rw [if_pos h2, if_pos (hb.mpr (by omega)), h2]
      · rw [if_neg h2]
        by_cases h1 : j = i1
        · rw [if_pos h1, if_pos (hb.mpr (by omega)), h1]
        · rw [if_neg h1, if_neg (fun q => by have := hb.mp q; omega)]
theorem up4c (f : Nat → Int32) {i1 i2 i3 i4 j : Nat} {b : Bool} (hb : b = true ↔ (j = i1 ∨ j = i2 ∨ j = i3 ∨ j = i4)) : upd (upd (upd (upd f i1 1) i2 1) i3 1) i4 1 j = if b = true then 1 else f j := by
  unfold upd
  by_cases h4 : j = i4
  · rw [if_pos h4, if_pos (hb.mpr (by omega))]
  · rw [if_neg h4]
    by_cases h3 : j = i3
    · rw [if_pos h3, if_pos (hb.mpr (by omega))]
    · rw [if_neg h3]
      by_cases h2 : j = i2
      · rw [if_pos h2, if_pos (hb.mpr (by omega))]
      · rw [if_neg h2]
        by_cases h1 : j = i1
        · rw [if_pos h1, if_pos (hb.mpr (by omega))]
        · rw [if_neg h1, if_neg (fun q => by have := hb.mp q; omega)]
def sq1 (t : TX) (i : Nat) : Bool := vw t (i / 6) && !hsd t (i / 6) (i % 6)
def eX (k w : Nat) : Nat := k % 15 + (if w / 2 = 0 then w % 2 else 0)
def eY (k w : Nat) : Nat := k / 15 % 15 + (if w / 2 = 1 then w % 2 else 0)
def eZ (k w : Nat) : Nat := k / 225 + (if w / 2 = 2 then w % 2 else 0)
def sqE (t : TX) (j i : Nat) : Bool := sq1 t i && tE (eX (i / 6) (i % 6)) (eY (i / 6) (i % 6)) (eZ (i / 6) (i % 6)) (i % 6 / 2) j
def sqC (t : TX) (j i : Nat) : Bool := sq1 t i && tC (eX (i / 6) (i % 6)) (eY (i / 6) (i % 6)) (eZ (i / 6) (i % 6)) (i % 6 / 2) j
/-- how many squares an edge is of; whether a corner is of one -/
def sE (t : TX) (j : Nat) : Nat := cn (sqE t j) 20250
def sC (t : TX) (j : Nat) : Bool := decide (0 < cn (sqC t j) 20250)
theorem cn_no {p : Nat → Bool} {n : Nat} (h : p n = false) : cn p (n + 1) = cn p n := by
  show cn p n + (if p n = true then 1 else 0) = _
  rw [h]; rfl
theorem cn_yes {p : Nat → Bool} {n : Nat} (h : p n = true) : cn p (n + 1) = cn p n + 1 := by
  show cn p n + (if p n = true then 1 else 0) = _
  rw [h]; rfl
theorem dec_if (p : Prop) [Decidable p] : (if decide p = true then 1 else 0) = (if p then 1 else 0) := by by_cases h : p <;> simp [h]
theorem dm6 {k w : Nat} (h : w < 6) : (6 * k + w) / 6 = k ∧ (6 * k + w) % 6 = w := by omega
theorem cn_6 {p : Nat → Bool} {k w : Nat} (h : ∀ w, w < 6 → p (6 * k + w) = false) (hw : w < 6) : cn p (6 * (k + 1)) = cn p (6 * k + w) := by
  have key : ∀ n, n ≤ 6 → cn p (6 * k + n) = cn p (6 * k) := by
    intro n
    induction n with
    | zero => intro _; rfl
    | succ n ih =>
      intro hn
      rw [show 6 * k + (n + 1) = 6 * k + n + 1 by omega, cn_no (h n (by omega)), ih (by omega)]
  rw [show 6 * (k + 1) = 6 * k + 6 by omega, key 6 (by omega), key w (by omega)]
theorem sq1_no {t : TX} {k w : Nat} (hw : w < 6) (h : ¬ vw t k = true) : sq1 t (6 * k + w) = false := by
  unfold sq1
  rw [(dm6 hw).1, Bool.eq_false_iff.mpr h]; rfl
theorem sq1_no2 {t : TX} {k w : Nat} (hw : w < 6) (h : hsd t k w = true) : sq1 t (6 * k + w) = false := by
  unfold sq1
  rw [(dm6 hw).1, (dm6 hw).2, h]; simp
theorem sq1_yes {t : TX} {k w : Nat} (hw : w < 6) (h : vw t k = true) (h2 : ¬ hsd t k w = true) : sq1 t (6 * k + w) = true := by
  unfold sq1
  rw [(dm6 hw).1, (dm6 hw).2, h, Bool.eq_false_iff.mpr h2]; rfl
theorem sqE_no {t : TX} {i j : Nat} (h : sq1 t i = false) : sqE t j i = false := by unfold sqE; rw [h]; rfl
theorem sqC_no {t : TX} {i j : Nat} (h : sq1 t i = false) : sqC t j i = false := by unfold sqC; rw [h]; rfl
theorem sqE_st {t : TX} {k w : Nat} {F F' : Nat → Int32} (hw : w < 6) (h : sq1 t (6 * k + w) = true) (hF : ∀ j, j < 12288 → F j = nI (cn (sqE t j) (6 * k + w))) (hF' : ∀ j, F' j = if tE (eX k w) (eY k w) (eZ k w) (w / 2) j = true then F j + 1 else F j) : ∀ j, j < 12288 → F' j = nI (cn (sqE t j) (6 * k + (w + 1))) := by
  intro j hj
  rw [hF', hF j hj]
  have e : sqE t j (6 * k + w) = tE (eX k w) (eY k w) (eZ k w) (w / 2) j := by
    unfold sqE
    rw [h, (dm6 hw).1, (dm6 hw).2]; rfl
  show _ = nI (cn (sqE t j) (6 * k + w) + (if sqE t j (6 * k + w) = true then 1 else 0))
  rw [e]
  split
  · rw [nI_lit, nI_add]
  · rfl
theorem sqC_st {t : TX} {k w : Nat} {G G' : Nat → Int32} (hw : w < 6) (h : sq1 t (6 * k + w) = true) (hG : ∀ j, j < 4096 → G j = bI (0 < cn (sqC t j) (6 * k + w))) (hG' : ∀ j, G' j = if tC (eX k w) (eY k w) (eZ k w) (w / 2) j = true then 1 else G j) : ∀ j, j < 4096 → G' j = bI (0 < cn (sqC t j) (6 * k + (w + 1))) := by
  intro j hj
  rw [hG', hG j hj]
  have e : sqC t j (6 * k + w) = tC (eX k w) (eY k w) (eZ k w) (w / 2) j := by
    unfold sqC
    rw [h, (dm6 hw).1, (dm6 hw).2]; rfl
  show _ = bI (0 < cn (sqC t j) (6 * k + w) + (if sqC t j (6 * k + w) = true then 1 else 0))
  rw [e]
  split
  · exact (bI_t (by omega)).symm
  · exact bI_c (by omega)
set_option maxHeartbeats 400000 in
set_option maxRecDepth 100000 in
theorem c_Mo_parted (l : Launch) (D : va_G) (cT : Nat → ClassId) (ad : Nat → Nat) (I : Nat → Int32) (J : Nat → Int64) (a : Nat → Nat → Int32) (g : Nat → Nat → Int64) (b : Int32) (what : Int32) (nbo : Nat) (T : Nat → TX) (hnb : I 0 = nI nbo) (h8 : nbo ≤ 8) (hT : ∀ q, q < nbo → BDT a q (T q)) : MMi l D cT ad y_Mo_parted b_Mo_parted 3 (some .int) 5 159 [.int b, .int what] I J a g (fun r u => SP I a u ∧ r = if (0 ≤ b.toInt ∧ b.toInt < (nbo : Int)) ∧ 0 ≤ what.toInt ∧ what.toInt ≤ 4 then (if what.toInt = 0 then iI (pae (T b.toInt.toNat) rt0 0) else if what.toInt = 1 then iI (pae (T b.toInt.toNat) rt0 1) else if what.toInt = 2 then iI (pae (T b.toInt.toNat) rt0 2) else if what.toInt = 3 then iI (pae (T b.toInt.toNat) rt0 3) else iI (pae (T b.toInt.toNat) rt0 4)) else -1) := by
  refine mo_enti (by decide) rfl (Nat.le_of_ble_eq_true rfl) ?_
  intro p e s m args below meth c Q hC hK hM hret ls hl
  have hx := hC.1
  have hb := hC.2.1
  replace hl : lv_has ls 3 [(0, .ref (ad 46)), (1, .int b), (2, .int what)] := hl
  refine lv_aload_n hx hb d_Mo_parted_0 rfl (lv_at hl 0 rfl) ?_
  refine lv_iload_n hx hb d_Mo_parted_1 rfl (lv_at hl 1 rfl) ?_
  refine mo_callr (np := 1) hC hK hM (c_Mo_is l D cT ad I J a g b nbo hnb h8) rfl ⟨wl_Mo_204, wi_Mo_is, ws_Mo_is, wc_Mo_is, wn_Mo⟩ ⟨by decide, by decide, by decide +kernel⟩ ⟨Nat.le_of_ble_eq_true rfl, Nat.le_of_ble_eq_true rfl⟩ hl.1 rfl (rest := []) rfl (Nat.le_of_ble_eq_true rfl) ⟨Nat.zero_le _, Nat.zero_le _⟩ d_Mo_parted_2 (fun rr hrr => ?_)
  subst hrr
  refine bz_eq (tgt := 20) hx hb d_Mo_parted_5 (by decide) (fun h1 => ?_) (fun h1 => ?_)
  · skip
    refine lv_iconst (v := (-1)) hx hb d_Mo_parted_20 (by decide) ?_
    exact hret _ _ _ _ _ _ _ _ _ d_Mo_parted_21 hM (⟨SP_a (fun _ _ => rfl), by rw [if_neg (by omega)]⟩)
  · skip
    refine lv_iload_n hx hb d_Mo_parted_8 rfl (lv_at hl 2 rfl) ?_
    refine lv_i2l (v := iL what.toInt) hx hb d_Mo_parted_9 (x_l _) ?_
    refine lv_lconst (v := 0) hx hb d_Mo_parted_10 (by decide) ?_
    refine lv_ldc2 (v := 4) hx hb hC.2.2.2.1 (hC.2.2.2.2 _ wx_Mo_247) d_Mo_parted_11 ?_
    refine st_calli (np := 3) hC (c_Mo_in l (iL (what.toInt)) 0 4 what.toInt 0 4 (iL_tx what) rfl rfl) ⟨wl_Mo_91, wt_Mo_in, wc_Mo_in, wn_Mo⟩ ⟨by decide, by decide, by decide +kernel⟩ ⟨Nat.le_of_ble_eq_true rfl, Nat.le_of_ble_eq_true rfl⟩ hl.1 rfl (rest := []) rfl (Nat.le_of_ble_eq_true rfl) ⟨Nat.zero_le _, Nat.zero_le _⟩ d_Mo_parted_14 (fun rr hrr => ?_)
    subst hrr
    refine bz_ne (tgt := 22) hx hb d_Mo_parted_17 (by decide) (fun h2 => ?_) (fun h2 => ?_)
    · skip
      obtain ⟨q, hq, rfl, hqt⟩ := ex_nI (n := 7) (x := b) (by omega) (by omega)
      have hqn : q < nbo := by omega
      refine lv_aload_n hx hb d_Mo_parted_22 rfl (lv_at hl 0 rfl) ?_
      refine lv_iload_n hx hb d_Mo_parted_23 rfl (lv_at hl 1 rfl) ?_
      refine mo_callv (np := 1) hC hK hM (c_Mo_partAll l D cT ad I J a g q (T q) (by omega) (hT q (by omega))) rfl ⟨wl_Mo_249, wi_Mo_partAll, ws_Mo_partAll, wc_Mo_partAll, wn_Mo⟩ ⟨by decide, by decide, by decide +kernel⟩ ⟨Nat.le_of_ble_eq_true rfl, Nat.le_of_ble_eq_true rfl⟩ hl.1 rfl (rest := []) rfl (Nat.le_of_ble_eq_true rfl) ⟨Nat.zero_le _, Nat.zero_le _⟩ d_Mo_parted_24 (fun I3 J3 a3 g3 H locs hp3 hM => ?_)
      obtain ⟨hsp_p3, hz0_p3, hz1_p3, hz2_p3, hz3_p3, hz4_p3⟩ := hp3
      replace hz0_p3 : I3 28 = iI (pae (T q) rt0 0) := hz0_p3
      replace hz1_p3 : I3 29 = iI (pae (T q) rt0 1) := hz1_p3
      replace hz2_p3 : I3 30 = iI (pae (T q) rt0 2) := hz2_p3
      replace hz3_p3 : I3 31 = iI (pae (T q) rt0 3) := hz3_p3
      replace hz4_p3 : I3 32 = iI (pae (T q) rt0 4) := hz4_p3
      refine lv_iload_n hx hb d_Mo_parted_27 rfl (lv_at hl 2 rfl) ?_
      refine yz_ne hx hb what.toInt (rfl) d_Mo_parted_28 (tgt := 38) (by decide) (fun h4 => ?_) (fun h4 => ?_)
      · skip
        refine lv_iload_n hx hb d_Mo_parted_38 rfl (lv_at hl 2 rfl) ?_
        refine lv_iconst (v := 1) hx hb d_Mo_parted_39 (by decide) ?_
        refine yc_ne hx hb what.toInt 1 (rfl) (rfl) d_Mo_parted_40 (tgt := 50) (by decide) (fun h5 => ?_) (fun h5 => ?_)
        · skip
          refine lv_iload_n hx hb d_Mo_parted_50 rfl (lv_at hl 2 rfl) ?_
          refine lv_iconst (v := 2) hx hb d_Mo_parted_51 (by decide) ?_
          refine yc_ne hx hb what.toInt 2 (rfl) (rfl) d_Mo_parted_52 (tgt := 62) (by decide) (fun h6 => ?_) (fun h6 => ?_)
          · skip
            refine lv_iload_n hx hb d_Mo_parted_62 rfl (lv_at hl 2 rfl) ?_
            refine lv_iconst (v := 3) hx hb d_Mo_parted_63 (by decide) ?_
            refine yc_ne hx hb what.toInt 3 (rfl) (rfl) d_Mo_parted_64 (tgt := 74) (by decide) (fun h7 => ?_) (fun h7 => ?_)
            · skip
              refine lv_aload_n hx hb d_Mo_parted_74 rfl (lv_at hl 0 rfl) ?_
              refine mo_geti hC hK hM 32 wf_Mo_240 rfl rfl (by decide) (v := iI (pae (T q) rt0 4)) (hz4_p3) d_Mo_parted_75 ?_
              refine hret _ _ _ _ _ _ _ _ _ d_Mo_parted_78 hM ?_
              refine ⟨by assumption, ?_⟩
              rw [if_pos (by omega), hqt]
              simp only [Int.toNat_natCast, if_neg h4, if_neg h5, if_neg h6, if_neg h7]
            · skip
              refine lv_aload_n hx hb d_Mo_parted_67 rfl (lv_at hl 0 rfl) ?_
              refine mo_geti hC hK hM 31 wf_Mo_237 rfl rfl (by decide) (v := iI (pae (T q) rt0 3)) (hz3_p3) d_Mo_parted_68 ?_
              refine lv_goto (tgt := 78) hx hb d_Mo_parted_71 (by decide) ?_
              refine hret _ _ _ _ _ _ _ _ _ d_Mo_parted_78 hM ?_
              refine ⟨by assumption, ?_⟩
              rw [if_pos (by omega), hqt]
              simp only [Int.toNat_natCast, if_neg h4, if_neg h5, if_neg h6, if_pos h7]
          · skip
            refine lv_aload_n hx hb d_Mo_parted_55 rfl (lv_at hl 0 rfl) ?_
            refine mo_geti hC hK hM 30 wf_Mo_234 rfl rfl (by decide) (v := iI (pae (T q) rt0 2)) (hz2_p3) d_Mo_parted_56 ?_
            refine lv_goto (tgt := 78) hx hb d_Mo_parted_59 (by decide) ?_
            refine hret _ _ _ _ _ _ _ _ _ d_Mo_parted_78 hM ?_
            refine ⟨by assumption, ?_⟩
            rw [if_pos (by omega), hqt]
            simp only [Int.toNat_natCast, if_neg h4, if_neg h5, if_pos h6]
        · skip
          refine lv_aload_n hx hb d_Mo_parted_43 rfl (lv_at hl 0 rfl) ?_
          refine mo_geti hC hK hM 29 wf_Mo_231 rfl rfl (by decide) (v := iI (pae (T q) rt0 1)) (hz1_p3) d_Mo_parted_44 ?_
          refine lv_goto (tgt := 78) hx hb d_Mo_parted_47 (by decide) ?_
          refine hret _ _ _ _ _ _ _ _ _ d_Mo_parted_78 hM ?_
          refine ⟨by assumption, ?_⟩
          rw [if_pos (by omega), hqt]
          simp only [Int.toNat_natCast, if_neg h4, if_pos h5]
      · skip
        refine lv_aload_n hx hb d_Mo_parted_31 rfl (lv_at hl 0 rfl) ?_
        refine mo_geti hC hK hM 28 wf_Mo_228 rfl rfl (by decide) (v := iI (pae (T q) rt0 0)) (hz0_p3) d_Mo_parted_32 ?_
        refine lv_goto (tgt := 78) hx hb d_Mo_parted_35 (by decide) ?_
        refine hret _ _ _ _ _ _ _ _ _ d_Mo_parted_78 hM ?_
        refine ⟨by assumption, ?_⟩
        rw [if_pos (by omega), hqt]
        simp only [Int.toNat_natCast, if_pos h4]
    · skip
      refine lv_iconst (v := (-1)) hx hb d_Mo_parted_20 (by decide) ?_
      exact hret _ _ _ _ _ _ _ _ _ d_Mo_parted_21 hM (⟨SP_a (fun _ _ => rfl), by rw [if_neg (by omega)]⟩)
set_option maxHeartbeats 400000 in
set_option maxRecDepth 100000 in
theorem c_Mo_square (l : Launch) (D : va_G) (cT : Nat → ClassId) (ad : Nat → Nat) (I : Nat → Int32) (J : Nat → Int64) (a : Nat → Nat → Int32) (g : Nat → Nat → Int64) (x : Nat) (y : Nat) (z : Nat) (ax : Nat)  (hx0 : x ≤ 15 ∧ y ≤ 15 ∧ z ≤ 15 ∧ ax < 3) (h0 : ax = 0 → y ≤ 14 ∧ z ≤ 14) (h1 : ax = 1 → x ≤ 14 ∧ z ≤ 14) (h2 : ax = 2 → x ≤ 14 ∧ y ≤ 14) : MMv l D cT ad y_Mo_square b_Mo_square 10 none 0 0 [.int (nI x), .int (nI y), .int (nI z), .int (nI ax)] I J a g (fun u => ∃ F G, u = (I, J, va_up (va_up a 35 F) 36 G, g) ∧ (∀ j, F j = if tE x y z ax j = true then a 35 j + 1 else a 35 j) ∧ (∀ j, G j = if tC x y z ax j = true then 1 else a 36 j)) := by
  refine mo_entv (by decide) rfl (Nat.le_of_ble_eq_true rfl) ?_
  intro p e s m args below meth c Q hC hK hM hret ls hl
  have hx := hC.1
  have hb := hC.2.1
  replace hl : lv_has ls 10 [(0, .ref (ad 46)), (1, .int (nI x)), (2, .int (nI y)), (3, .int (nI z)), (4, .int (nI ax))] := hl
  refine lv_iload hx hb d_Mo_square_0 (lv_at hl 4 rfl) ?_
  refine nz_ne hx hb ax (by omega) d_Mo_square_2 (tgt := 10) (by decide) (fun h1 => ?_) (fun h1 => ?_)
  · skip
    refine lv_iconst (v := 1) hx hb d_Mo_square_10 (by decide) ?_
    refine lv_istore (lv' := [(5, .int 1), (0, .ref (ad 46)), (1, .int (nI x)), (2, .int (nI y)), (3, .int (nI z)), (4, .int (nI ax))]) hx hb d_Mo_square_11 hl (by decide) rfl (fun ls hl => ?_)
    refine lv_iload hx hb d_Mo_square_13 (lv_at hl 5 rfl) ?_
    refine lv_iconst (v := 2) hx hb d_Mo_square_15 (by decide) ?_
    refine nc_ne hx hb ax 2 (by omega) (by omega) d_Mo_square_16 (tgt := 24) (by decide) (fun h2 => ?_) (fun h2 => ?_)
    · skip
      refine lv_sipush (v := 256) hx hb d_Mo_square_24 (by decide) ?_
      refine lv_istore (lv' := [(6, .int 256), (5, .int 1), (0, .ref (ad 46)), (1, .int (nI x)), (2, .int (nI y)), (3, .int (nI z)), (4, .int (nI ax))]) hx hb d_Mo_square_27 hl (by decide) rfl (fun ls hl => ?_)
      refine lv_iload hx hb d_Mo_square_29 (lv_at hl 6 rfl) ?_
      refine nz_ne hx hb ax (by omega) d_Mo_square_31 (tgt := 38) (by decide) (fun h3 => ?_) (fun h3 => ?_)
      · skip
        refine lv_iconst (v := 0) hx hb d_Mo_square_38 (by decide) ?_
        refine lv_istore (lv' := [(7, .int 0), (6, .int 256), (5, .int 1), (0, .ref (ad 46)), (1, .int (nI x)), (2, .int (nI y)), (3, .int (nI z)), (4, .int (nI ax))]) hx hb d_Mo_square_39 hl (by decide) rfl (fun ls hl => ?_)
        refine lv_iload hx hb d_Mo_square_41 (lv_at hl 7 rfl) ?_
        refine lv_iconst (v := 2) hx hb d_Mo_square_43 (by decide) ?_
        refine nc_ne hx hb ax 2 (by omega) (by omega) d_Mo_square_44 (tgt := 51) (by decide) (fun h4 => ?_) (fun h4 => ?_)
        · skip
          refine lv_iconst (v := 2) hx hb d_Mo_square_51 (by decide) ?_
          refine lv_istore (lv' := [(8, .int 2), (7, .int 0), (6, .int 256), (5, .int 1), (0, .ref (ad 46)), (1, .int (nI x)), (2, .int (nI y)), (3, .int (nI z)), (4, .int (nI ax))]) hx hb d_Mo_square_52 hl (by decide) rfl (fun ls hl => ?_)
          refine lv_sipush (v := 256) hx hb d_Mo_square_54 (by decide) ?_
          refine lv_iload_n hx hb d_Mo_square_57 rfl (lv_at hl 7 rfl) ?_
          refine lv_imul hx hb d_Mo_square_58 ?_
          refine topi_eq (pk_mul 256 z) ?_
          refine lv_bipush (v := 16) hx hb d_Mo_square_59 (by decide) ?_
          refine lv_iload_n hx hb d_Mo_square_61 rfl (lv_at hl 6 rfl) ?_
          refine lv_imul hx hb d_Mo_square_62 ?_
          refine topi_eq (pk_mul 16 y) ?_
          refine lv_iadd hx hb d_Mo_square_63 ?_
          refine topi_eq (nI_add (256 * z) (16 * y)) ?_
          refine lv_iload_n hx hb d_Mo_square_64 rfl (lv_at hl 5 rfl) ?_
          refine lv_iadd hx hb d_Mo_square_65 ?_
          refine topi_eq (nI_add ((256 * z) + (16 * y)) x) ?_
          refine lv_istore (lv' := [(9, .int (nI (((256 * z) + (16 * y)) + x))), (8, .int 2), (7, .int 0), (6, .int 256), (5, .int 1), (0, .ref (ad 46)), (1, .int (nI x)), (2, .int (nI y)), (3, .int (nI z)), (4, .int (nI ax))]) hx hb d_Mo_square_66 hl (by decide) rfl (fun ls hl => ?_)
          refine lv_aload_n hx hb d_Mo_square_68 rfl (lv_at hl 5 rfl) ?_
          refine mo_getr hC hK hM 35 wf_Mo_66 rfl (by decide) (by decide) d_Mo_square_69 ?_
          refine lv_sipush (v := 4096) hx hb d_Mo_square_72 (by decide) ?_
          refine lv_iload hx hb d_Mo_square_75 (lv_at hl 2 rfl) ?_
          refine lv_imul hx hb d_Mo_square_77 ?_
          refine topi_eq (show (4096 : Int32) * 0 = 0 by decide) ?_
          refine lv_iload hx hb d_Mo_square_78 (lv_at hl 0 rfl) ?_
          refine lv_iadd hx hb d_Mo_square_80 ?_
          refine topi_eq (nI_add 0 (((256 * z) + (16 * y)) + x)) ?_
          refine lv_dup2_11 hx hb d_Mo_square_81 rfl rfl ?_
          refine mo_ialdN hC hK hM 35 (0 + (((256 * z) + (16 * y)) + x)) (by decide) rfl (n := 12288) rfl (by decide) (i := nI (0 + (((256 * z) + (16 * y)) + x))) (rfl) (by omega) (v := (a 35) (0 + (((256 * z) + (16 * y)) + x))) (rfl) d_Mo_square_82 ?_
          refine lv_iconst (v := 1) hx hb d_Mo_square_83 (by decide) ?_
          refine lv_iadd hx hb d_Mo_square_84 ?_
          refine mo_iastN hC hK hM 35 (0 + (((256 * z) + (16 * y)) + x)) (by decide) rfl (n := 12288) rfl (by decide) (i := nI (0 + (((256 * z) + (16 * y)) + x))) (x := ((a 35) (0 + (((256 * z) + (16 * y)) + x))) + 1) (rfl) (by omega) d_Mo_square_85 (fun H locs hM => ?_)
          refine lv_aload_n hx hb d_Mo_square_86 rfl (lv_at hl 5 rfl) ?_
          refine mo_getr hC hK hM 35 wf_Mo_66 rfl (by decide) (by decide) d_Mo_square_87 ?_
          refine lv_sipush (v := 4096) hx hb d_Mo_square_90 (by decide) ?_
          refine lv_iload hx hb d_Mo_square_93 (lv_at hl 2 rfl) ?_
          refine lv_imul hx hb d_Mo_square_95 ?_
          refine topi_eq (show (4096 : Int32) * 0 = 0 by decide) ?_
          refine lv_iload hx hb d_Mo_square_96 (lv_at hl 0 rfl) ?_
          refine lv_iadd hx hb d_Mo_square_98 ?_
          refine topi_eq (nI_add 0 (((256 * z) + (16 * y)) + x)) ?_
          refine lv_iload hx hb d_Mo_square_99 (lv_at hl 3 rfl) ?_
          refine lv_iadd hx hb d_Mo_square_101 ?_
          refine topi_eq (nI_add (0 + (((256 * z) + (16 * y)) + x)) 256) ?_
          refine lv_dup2_11 hx hb d_Mo_square_102 rfl rfl ?_
          refine mo_ialdN hC hK hM 35 ((0 + (((256 * z) + (16 * y)) + x)) + 256) (by decide) rfl (n := 12288) rfl (by decide) (i := nI ((0 + (((256 * z) + (16 * y)) + x)) + 256)) (rfl) (by omega) (v := (a 35) ((0 + (((256 * z) + (16 * y)) + x)) + 256)) (pk_un (by omega)) d_Mo_square_103 ?_
          refine lv_iconst (v := 1) hx hb d_Mo_square_104 (by decide) ?_
          refine lv_iadd hx hb d_Mo_square_105 ?_
          refine mo_iastN hC hK hM 35 ((0 + (((256 * z) + (16 * y)) + x)) + 256) (by decide) rfl (n := 12288) rfl (by decide) (i := nI ((0 + (((256 * z) + (16 * y)) + x)) + 256)) (x := ((a 35) ((0 + (((256 * z) + (16 * y)) + x)) + 256)) + 1) (rfl) (by omega) d_Mo_square_106 (fun H locs hM => ?_)
          rw [bx_uu] at hM
          replace hM : MO D cT ad I J (va_up a 35 (upd (upd (a 35) (0 + (((256 * z) + (16 * y)) + x)) (((a 35) (0 + (((256 * z) + (16 * y)) + x))) + 1)) ((0 + (((256 * z) + (16 * y)) + x)) + 256) (((a 35) ((0 + (((256 * z) + (16 * y)) + x)) + 256)) + 1))) g s.heap H locs := hM
          refine lv_aload_n hx hb d_Mo_square_107 rfl (lv_at hl 5 rfl) ?_
          refine mo_getr hC hK hM 35 wf_Mo_66 rfl (by decide) (by decide) d_Mo_square_108 ?_
          refine lv_sipush (v := 4096) hx hb d_Mo_square_111 (by decide) ?_
          refine lv_iload hx hb d_Mo_square_114 (lv_at hl 1 rfl) ?_
          refine lv_imul hx hb d_Mo_square_116 ?_
          refine topi_eq (show (4096 : Int32) * 2 = 8192 by decide) ?_
          refine lv_iload hx hb d_Mo_square_117 (lv_at hl 0 rfl) ?_
          refine lv_iadd hx hb d_Mo_square_119 ?_
          refine topi_eq (nI_add 8192 (((256 * z) + (16 * y)) + x)) ?_
          refine lv_dup2_11 hx hb d_Mo_square_120 rfl rfl ?_
          refine mo_ialdN hC hK hM 35 (8192 + (((256 * z) + (16 * y)) + x)) (by decide) rfl (n := 12288) rfl (by decide) (i := nI (8192 + (((256 * z) + (16 * y)) + x))) (rfl) (by omega) (v := (a 35) (8192 + (((256 * z) + (16 * y)) + x))) ((pk_un (by omega)).trans (pk_un (by omega))) d_Mo_square_121 ?_
          refine lv_iconst (v := 1) hx hb d_Mo_square_122 (by decide) ?_
          refine lv_iadd hx hb d_Mo_square_123 ?_
          refine mo_iastN hC hK hM 35 (8192 + (((256 * z) + (16 * y)) + x)) (by decide) rfl (n := 12288) rfl (by decide) (i := nI (8192 + (((256 * z) + (16 * y)) + x))) (x := ((a 35) (8192 + (((256 * z) + (16 * y)) + x))) + 1) (rfl) (by omega) d_Mo_square_124 (fun H locs hM => ?_)
          rw [bx_uu] at hM
          replace hM : MO D cT ad I J (va_up a 35 (upd (upd (upd (a 35) (0 + (((256 * z) + (16 * y)) + x)) (((a 35) (0 + (((256 * z) + (16 * y)) + x))) + 1)) ((0 + (((256 * z) + (16 * y)) + x)) + 256) (((a 35) ((0 + (((256 * z) + (16 * y)) + x)) + 256)) + 1)) (8192 + (((256 * z) + (16 * y)) + x)) (((a 35) (8192 + (((256 * z) + (16 * y)) + x))) + 1))) g s.heap H locs := hM
          refine lv_aload_n hx hb d_Mo_square_125 rfl (lv_at hl 5 rfl) ?_
          refine mo_getr hC hK hM 35 wf_Mo_66 rfl (by decide) (by decide) d_Mo_square_126 ?_
          refine lv_sipush (v := 4096) hx hb d_Mo_square_129 (by decide) ?_
          refine lv_iload hx hb d_Mo_square_132 (lv_at hl 1 rfl) ?_
          refine lv_imul hx hb d_Mo_square_134 ?_
          refine topi_eq (show (4096 : Int32) * 2 = 8192 by decide) ?_
          refine lv_iload hx hb d_Mo_square_135 (lv_at hl 0 rfl) ?_
          refine lv_iadd hx hb d_Mo_square_137 ?_
          refine topi_eq (nI_add 8192 (((256 * z) + (16 * y)) + x)) ?_
          refine lv_iload hx hb d_Mo_square_138 (lv_at hl 4 rfl) ?_
          refine lv_iadd hx hb d_Mo_square_140 ?_
          refine topi_eq (nI_add (8192 + (((256 * z) + (16 * y)) + x)) 1) ?_
          refine lv_dup2_11 hx hb d_Mo_square_141 rfl rfl ?_
          refine mo_ialdN hC hK hM 35 ((8192 + (((256 * z) + (16 * y)) + x)) + 1) (by decide) rfl (n := 12288) rfl (by decide) (i := nI ((8192 + (((256 * z) + (16 * y)) + x)) + 1)) (rfl) (by omega) (v := (a 35) ((8192 + (((256 * z) + (16 * y)) + x)) + 1)) ((pk_un (by omega)).trans ((pk_un (by omega)).trans (pk_un (by omega)))) d_Mo_square_142 ?_
          refine lv_iconst (v := 1) hx hb d_Mo_square_143 (by decide) ?_
          refine lv_iadd hx hb d_Mo_square_144 ?_
          refine mo_iastN hC hK hM 35 ((8192 + (((256 * z) + (16 * y)) + x)) + 1) (by decide) rfl (n := 12288) rfl (by decide) (i := nI ((8192 + (((256 * z) + (16 * y)) + x)) + 1)) (x := ((a 35) ((8192 + (((256 * z) + (16 * y)) + x)) + 1)) + 1) (rfl) (by omega) d_Mo_square_145 (fun H locs hM => ?_)
          rw [bx_uu] at hM
          replace hM : MO D cT ad I J (va_up a 35 (upd (upd (upd (upd (a 35) (0 + (((256 * z) + (16 * y)) + x)) (((a 35) (0 + (((256 * z) + (16 * y)) + x))) + 1)) ((0 + (((256 * z) + (16 * y)) + x)) + 256) (((a 35) ((0 + (((256 * z) + (16 * y)) + x)) + 256)) + 1)) (8192 + (((256 * z) + (16 * y)) + x)) (((a 35) (8192 + (((256 * z) + (16 * y)) + x))) + 1)) ((8192 + (((256 * z) + (16 * y)) + x)) + 1) (((a 35) ((8192 + (((256 * z) + (16 * y)) + x)) + 1)) + 1))) g s.heap H locs := hM
          refine lv_aload_n hx hb d_Mo_square_146 rfl (lv_at hl 5 rfl) ?_
          refine mo_getr hC hK hM 36 wf_Mo_69 rfl (by decide) (by decide) d_Mo_square_147 ?_
          refine lv_iload hx hb d_Mo_square_150 (lv_at hl 0 rfl) ?_
          refine lv_iconst (v := 1) hx hb d_Mo_square_152 (by decide) ?_
          refine mo_zastN hC hK hM 36 (((256 * z) + (16 * y)) + x) (by decide) rfl (n := 4096) rfl (by decide) (i := nI (((256 * z) + (16 * y)) + x)) (x := 1) (rfl) (by omega) (by first | exact Or.inl rfl | exact Or.inr rfl | exact bI_01) d_Mo_square_153 (fun H locs hM => ?_)
          replace hM : MO D cT ad I J (va_up (va_up a 35 (upd (upd (upd (upd (a 35) (0 + (((256 * z) + (16 * y)) + x)) (((a 35) (0 + (((256 * z) + (16 * y)) + x))) + 1)) ((0 + (((256 * z) + (16 * y)) + x)) + 256) (((a 35) ((0 + (((256 * z) + (16 * y)) + x)) + 256)) + 1)) (8192 + (((256 * z) + (16 * y)) + x)) (((a 35) (8192 + (((256 * z) + (16 * y)) + x))) + 1)) ((8192 + (((256 * z) + (16 * y)) + x)) + 1) (((a 35) ((8192 + (((256 * z) + (16 * y)) + x)) + 1)) + 1))) 36 (upd (a 36) (((256 * z) + (16 * y)) + x) 1)) g s.heap H locs := hM
          refine lv_aload_n hx hb d_Mo_square_154 rfl (lv_at hl 5 rfl) ?_
          refine mo_getr hC hK hM 36 wf_Mo_69 rfl (by decide) (by decide) d_Mo_square_155 ?_
          refine lv_iload hx hb d_Mo_square_158 (lv_at hl 0 rfl) ?_
          refine lv_iload hx hb d_Mo_square_160 (lv_at hl 4 rfl) ?_
          refine lv_iadd hx hb d_Mo_square_162 ?_
          refine topi_eq (nI_add (((256 * z) + (16 * y)) + x) 1) ?_
          refine lv_iconst (v := 1) hx hb d_Mo_square_163 (by decide) ?_
          refine mo_zastN hC hK hM 36 ((((256 * z) + (16 * y)) + x) + 1) (by decide) rfl (n := 4096) rfl (by decide) (i := nI ((((256 * z) + (16 * y)) + x) + 1)) (x := 1) (rfl) (by omega) (by first | exact Or.inl rfl | exact Or.inr rfl | exact bI_01) d_Mo_square_164 (fun H locs hM => ?_)
          rw [bx_uu] at hM
          replace hM : MO D cT ad I J (va_up (va_up a 35 (upd (upd (upd (upd (a 35) (0 + (((256 * z) + (16 * y)) + x)) (((a 35) (0 + (((256 * z) + (16 * y)) + x))) + 1)) ((0 + (((256 * z) + (16 * y)) + x)) + 256) (((a 35) ((0 + (((256 * z) + (16 * y)) + x)) + 256)) + 1)) (8192 + (((256 * z) + (16 * y)) + x)) (((a 35) (8192 + (((256 * z) + (16 * y)) + x))) + 1)) ((8192 + (((256 * z) + (16 * y)) + x)) + 1) (((a 35) ((8192 + (((256 * z) + (16 * y)) + x)) + 1)) + 1))) 36 (upd (upd (a 36) (((256 * z) + (16 * y)) + x) 1) ((((256 * z) + (16 * y)) + x) + 1) 1)) g s.heap H locs := hM
          refine lv_aload_n hx hb d_Mo_square_165 rfl (lv_at hl 5 rfl) ?_
          refine mo_getr hC hK hM 36 wf_Mo_69 rfl (by decide) (by decide) d_Mo_square_166 ?_
          refine lv_iload hx hb d_Mo_square_169 (lv_at hl 0 rfl) ?_
          refine lv_iload hx hb d_Mo_square_171 (lv_at hl 3 rfl) ?_
          refine lv_iadd hx hb d_Mo_square_173 ?_
          refine topi_eq (nI_add (((256 * z) + (16 * y)) + x) 256) ?_
          refine lv_iconst (v := 1) hx hb d_Mo_square_174 (by decide) ?_
          refine mo_zastN hC hK hM 36 ((((256 * z) + (16 * y)) + x) + 256) (by decide) rfl (n := 4096) rfl (by decide) (i := nI ((((256 * z) + (16 * y)) + x) + 256)) (x := 1) (rfl) (by omega) (by first | exact Or.inl rfl | exact Or.inr rfl | exact bI_01) d_Mo_square_175 (fun H locs hM => ?_)
          rw [bx_uu] at hM
          replace hM : MO D cT ad I J (va_up (va_up a 35 (upd (upd (upd (upd (a 35) (0 + (((256 * z) + (16 * y)) + x)) (((a 35) (0 + (((256 * z) + (16 * y)) + x))) + 1)) ((0 + (((256 * z) + (16 * y)) + x)) + 256) (((a 35) ((0 + (((256 * z) + (16 * y)) + x)) + 256)) + 1)) (8192 + (((256 * z) + (16 * y)) + x)) (((a 35) (8192 + (((256 * z) + (16 * y)) + x))) + 1)) ((8192 + (((256 * z) + (16 * y)) + x)) + 1) (((a 35) ((8192 + (((256 * z) + (16 * y)) + x)) + 1)) + 1))) 36 (upd (upd (upd (a 36) (((256 * z) + (16 * y)) + x) 1) ((((256 * z) + (16 * y)) + x) + 1) 1) ((((256 * z) + (16 * y)) + x) + 256) 1)) g s.heap H locs := hM
          refine lv_aload_n hx hb d_Mo_square_176 rfl (lv_at hl 5 rfl) ?_
          refine mo_getr hC hK hM 36 wf_Mo_69 rfl (by decide) (by decide) d_Mo_square_177 ?_
          refine lv_iload hx hb d_Mo_square_180 (lv_at hl 0 rfl) ?_
          refine lv_iload hx hb d_Mo_square_182 (lv_at hl 4 rfl) ?_
          refine lv_iadd hx hb d_Mo_square_184 ?_
          refine topi_eq (nI_add (((256 * z) + (16 * y)) + x) 1) ?_
          refine lv_iload hx hb d_Mo_square_185 (lv_at hl 3 rfl) ?_
          refine lv_iadd hx hb d_Mo_square_187 ?_
          refine topi_eq (nI_add ((((256 * z) + (16 * y)) + x) + 1) 256) ?_
          refine lv_iconst (v := 1) hx hb d_Mo_square_188 (by decide) ?_
          refine mo_zastN hC hK hM 36 (((((256 * z) + (16 * y)) + x) + 1) + 256) (by decide) rfl (n := 4096) rfl (by decide) (i := nI (((((256 * z) + (16 * y)) + x) + 1) + 256)) (x := 1) (rfl) (by omega) (by first | exact Or.inl rfl | exact Or.inr rfl | exact bI_01) d_Mo_square_189 (fun H locs hM => ?_)
          rw [bx_uu] at hM
          replace hM : MO D cT ad I J (va_up (va_up a 35 (upd (upd (upd (upd (a 35) (0 + (((256 * z) + (16 * y)) + x)) (((a 35) (0 + (((256 * z) + (16 * y)) + x))) + 1)) ((0 + (((256 * z) + (16 * y)) + x)) + 256) (((a 35) ((0 + (((256 * z) + (16 * y)) + x)) + 256)) + 1)) (8192 + (((256 * z) + (16 * y)) + x)) (((a 35) (8192 + (((256 * z) + (16 * y)) + x))) + 1)) ((8192 + (((256 * z) + (16 * y)) + x)) + 1) (((a 35) ((8192 + (((256 * z) + (16 * y)) + x)) + 1)) + 1))) 36 (upd (upd (upd (upd (a 36) (((256 * z) + (16 * y)) + x) 1) ((((256 * z) + (16 * y)) + x) + 1) 1) ((((256 * z) + (16 * y)) + x) + 256) 1) (((((256 * z) + (16 * y)) + x) + 1) + 256) 1)) g s.heap H locs := hM
          refine hret _ _ _ _ _ _ _ _ d_Mo_square_190 hM ?_
          obtain rfl : ax = 1 := by omega
          exact ⟨_, _, rfl, fun j => up4e _ (by simp only [tE, Bool.or_eq_true, beq_iff_eq, reduceIte, Nat.reduceEqDiff, Nat.one_ne_zero, if_true, if_false]; (try omega)), fun j => up4c _ (by simp only [tC, Bool.or_eq_true, beq_iff_eq, reduceIte, Nat.reduceEqDiff, Nat.one_ne_zero, if_true, if_false]; (try omega))⟩
        · exfalso; omega
      · exfalso; omega
    · skip
      refine lv_bipush (v := 16) hx hb d_Mo_square_19 (by decide) ?_
      refine lv_goto (tgt := 27) hx hb d_Mo_square_21 (by decide) ?_
      refine lv_istore (lv' := [(6, .int 16), (5, .int 1), (0, .ref (ad 46)), (1, .int (nI x)), (2, .int (nI y)), (3, .int (nI z)), (4, .int (nI ax))]) hx hb d_Mo_square_27 hl (by decide) rfl (fun ls hl => ?_)
      refine lv_iload hx hb d_Mo_square_29 (lv_at hl 6 rfl) ?_
      refine nz_ne hx hb ax (by omega) d_Mo_square_31 (tgt := 38) (by decide) (fun h5 => ?_) (fun h5 => ?_)
      · skip
        refine lv_iconst (v := 0) hx hb d_Mo_square_38 (by decide) ?_
        refine lv_istore (lv' := [(7, .int 0), (6, .int 16), (5, .int 1), (0, .ref (ad 46)), (1, .int (nI x)), (2, .int (nI y)), (3, .int (nI z)), (4, .int (nI ax))]) hx hb d_Mo_square_39 hl (by decide) rfl (fun ls hl => ?_)
        refine lv_iload hx hb d_Mo_square_41 (lv_at hl 7 rfl) ?_
        refine lv_iconst (v := 2) hx hb d_Mo_square_43 (by decide) ?_
        refine nc_ne hx hb ax 2 (by omega) (by omega) d_Mo_square_44 (tgt := 51) (by decide) (fun h6 => ?_) (fun h6 => ?_)
        · exfalso; omega
        · skip
          refine lv_iconst (v := 1) hx hb d_Mo_square_47 (by decide) ?_
          refine lv_goto (tgt := 52) hx hb d_Mo_square_48 (by decide) ?_
          refine lv_istore (lv' := [(8, .int 1), (7, .int 0), (6, .int 16), (5, .int 1), (0, .ref (ad 46)), (1, .int (nI x)), (2, .int (nI y)), (3, .int (nI z)), (4, .int (nI ax))]) hx hb d_Mo_square_52 hl (by decide) rfl (fun ls hl => ?_)
          refine lv_sipush (v := 256) hx hb d_Mo_square_54 (by decide) ?_
          refine lv_iload_n hx hb d_Mo_square_57 rfl (lv_at hl 7 rfl) ?_
          refine lv_imul hx hb d_Mo_square_58 ?_
          refine topi_eq (pk_mul 256 z) ?_
          refine lv_bipush (v := 16) hx hb d_Mo_square_59 (by decide) ?_
          refine lv_iload_n hx hb d_Mo_square_61 rfl (lv_at hl 6 rfl) ?_
          refine lv_imul hx hb d_Mo_square_62 ?_
          refine topi_eq (pk_mul 16 y) ?_
          refine lv_iadd hx hb d_Mo_square_63 ?_
          refine topi_eq (nI_add (256 * z) (16 * y)) ?_
          refine lv_iload_n hx hb d_Mo_square_64 rfl (lv_at hl 5 rfl) ?_
          refine lv_iadd hx hb d_Mo_square_65 ?_
          refine topi_eq (nI_add ((256 * z) + (16 * y)) x) ?_
          refine lv_istore (lv' := [(9, .int (nI (((256 * z) + (16 * y)) + x))), (8, .int 1), (7, .int 0), (6, .int 16), (5, .int 1), (0, .ref (ad 46)), (1, .int (nI x)), (2, .int (nI y)), (3, .int (nI z)), (4, .int (nI ax))]) hx hb d_Mo_square_66 hl (by decide) rfl (fun ls hl => ?_)
          refine lv_aload_n hx hb d_Mo_square_68 rfl (lv_at hl 5 rfl) ?_
          refine mo_getr hC hK hM 35 wf_Mo_66 rfl (by decide) (by decide) d_Mo_square_69 ?_
          refine lv_sipush (v := 4096) hx hb d_Mo_square_72 (by decide) ?_
          refine lv_iload hx hb d_Mo_square_75 (lv_at hl 2 rfl) ?_
          refine lv_imul hx hb d_Mo_square_77 ?_
          refine topi_eq (show (4096 : Int32) * 0 = 0 by decide) ?_
          refine lv_iload hx hb d_Mo_square_78 (lv_at hl 0 rfl) ?_
          refine lv_iadd hx hb d_Mo_square_80 ?_
          refine topi_eq (nI_add 0 (((256 * z) + (16 * y)) + x)) ?_
          refine lv_dup2_11 hx hb d_Mo_square_81 rfl rfl ?_
          refine mo_ialdN hC hK hM 35 (0 + (((256 * z) + (16 * y)) + x)) (by decide) rfl (n := 12288) rfl (by decide) (i := nI (0 + (((256 * z) + (16 * y)) + x))) (rfl) (by omega) (v := (a 35) (0 + (((256 * z) + (16 * y)) + x))) (rfl) d_Mo_square_82 ?_
          refine lv_iconst (v := 1) hx hb d_Mo_square_83 (by decide) ?_
          refine lv_iadd hx hb d_Mo_square_84 ?_
          refine mo_iastN hC hK hM 35 (0 + (((256 * z) + (16 * y)) + x)) (by decide) rfl (n := 12288) rfl (by decide) (i := nI (0 + (((256 * z) + (16 * y)) + x))) (x := ((a 35) (0 + (((256 * z) + (16 * y)) + x))) + 1) (rfl) (by omega) d_Mo_square_85 (fun H locs hM => ?_)
          refine lv_aload_n hx hb d_Mo_square_86 rfl (lv_at hl 5 rfl) ?_
          refine mo_getr hC hK hM 35 wf_Mo_66 rfl (by decide) (by decide) d_Mo_square_87 ?_
          refine lv_sipush (v := 4096) hx hb d_Mo_square_90 (by decide) ?_
          refine lv_iload hx hb d_Mo_square_93 (lv_at hl 2 rfl) ?_
          refine lv_imul hx hb d_Mo_square_95 ?_
          refine topi_eq (show (4096 : Int32) * 0 = 0 by decide) ?_
          refine lv_iload hx hb d_Mo_square_96 (lv_at hl 0 rfl) ?_
          refine lv_iadd hx hb d_Mo_square_98 ?_
          refine topi_eq (nI_add 0 (((256 * z) + (16 * y)) + x)) ?_
          refine lv_iload hx hb d_Mo_square_99 (lv_at hl 3 rfl) ?_
          refine lv_iadd hx hb d_Mo_square_101 ?_
          refine topi_eq (nI_add (0 + (((256 * z) + (16 * y)) + x)) 16) ?_
          refine lv_dup2_11 hx hb d_Mo_square_102 rfl rfl ?_
          refine mo_ialdN hC hK hM 35 ((0 + (((256 * z) + (16 * y)) + x)) + 16) (by decide) rfl (n := 12288) rfl (by decide) (i := nI ((0 + (((256 * z) + (16 * y)) + x)) + 16)) (rfl) (by omega) (v := (a 35) ((0 + (((256 * z) + (16 * y)) + x)) + 16)) (pk_un (by omega)) d_Mo_square_103 ?_
          refine lv_iconst (v := 1) hx hb d_Mo_square_104 (by decide) ?_
          refine lv_iadd hx hb d_Mo_square_105 ?_
          refine mo_iastN hC hK hM 35 ((0 + (((256 * z) + (16 * y)) + x)) + 16) (by decide) rfl (n := 12288) rfl (by decide) (i := nI ((0 + (((256 * z) + (16 * y)) + x)) + 16)) (x := ((a 35) ((0 + (((256 * z) + (16 * y)) + x)) + 16)) + 1) (rfl) (by omega) d_Mo_square_106 (fun H locs hM => ?_)
          rw [bx_uu] at hM
          replace hM : MO D cT ad I J (va_up a 35 (upd (upd (a 35) (0 + (((256 * z) + (16 * y)) + x)) (((a 35) (0 + (((256 * z) + (16 * y)) + x))) + 1)) ((0 + (((256 * z) + (16 * y)) + x)) + 16) (((a 35) ((0 + (((256 * z) + (16 * y)) + x)) + 16)) + 1))) g s.heap H locs := hM
          refine lv_aload_n hx hb d_Mo_square_107 rfl (lv_at hl 5 rfl) ?_
          refine mo_getr hC hK hM 35 wf_Mo_66 rfl (by decide) (by decide) d_Mo_square_108 ?_
          refine lv_sipush (v := 4096) hx hb d_Mo_square_111 (by decide) ?_
          refine lv_iload hx hb d_Mo_square_114 (lv_at hl 1 rfl) ?_
          refine lv_imul hx hb d_Mo_square_116 ?_
          refine topi_eq (show (4096 : Int32) * 1 = 4096 by decide) ?_
          refine lv_iload hx hb d_Mo_square_117 (lv_at hl 0 rfl) ?_
          refine lv_iadd hx hb d_Mo_square_119 ?_
          refine topi_eq (nI_add 4096 (((256 * z) + (16 * y)) + x)) ?_
          refine lv_dup2_11 hx hb d_Mo_square_120 rfl rfl ?_
          refine mo_ialdN hC hK hM 35 (4096 + (((256 * z) + (16 * y)) + x)) (by decide) rfl (n := 12288) rfl (by decide) (i := nI (4096 + (((256 * z) + (16 * y)) + x))) (rfl) (by omega) (v := (a 35) (4096 + (((256 * z) + (16 * y)) + x))) ((pk_un (by omega)).trans (pk_un (by omega))) d_Mo_square_121 ?_
          refine lv_iconst (v := 1) hx hb d_Mo_square_122 (by decide) ?_
          refine lv_iadd hx hb d_Mo_square_123 ?_
          refine mo_iastN hC hK hM 35 (4096 + (((256 * z) + (16 * y)) + x)) (by decide) rfl (n := 12288) rfl (by decide) (i := nI (4096 + (((256 * z) + (16 * y)) + x))) (x := ((a 35) (4096 + (((256 * z) + (16 * y)) + x))) + 1) (rfl) (by omega) d_Mo_square_124 (fun H locs hM => ?_)
          rw [bx_uu] at hM
          replace hM : MO D cT ad I J (va_up a 35 (upd (upd (upd (a 35) (0 + (((256 * z) + (16 * y)) + x)) (((a 35) (0 + (((256 * z) + (16 * y)) + x))) + 1)) ((0 + (((256 * z) + (16 * y)) + x)) + 16) (((a 35) ((0 + (((256 * z) + (16 * y)) + x)) + 16)) + 1)) (4096 + (((256 * z) + (16 * y)) + x)) (((a 35) (4096 + (((256 * z) + (16 * y)) + x))) + 1))) g s.heap H locs := hM
          refine lv_aload_n hx hb d_Mo_square_125 rfl (lv_at hl 5 rfl) ?_
          refine mo_getr hC hK hM 35 wf_Mo_66 rfl (by decide) (by decide) d_Mo_square_126 ?_
          refine lv_sipush (v := 4096) hx hb d_Mo_square_129 (by decide) ?_
          refine lv_iload hx hb d_Mo_square_132 (lv_at hl 1 rfl) ?_
          refine lv_imul hx hb d_Mo_square_134 ?_
          refine topi_eq (show (4096 : Int32) * 1 = 4096 by decide) ?_
          refine lv_iload hx hb d_Mo_square_135 (lv_at hl 0 rfl) ?_
          refine lv_iadd hx hb d_Mo_square_137 ?_
          refine topi_eq (nI_add 4096 (((256 * z) + (16 * y)) + x)) ?_
          refine lv_iload hx hb d_Mo_square_138 (lv_at hl 4 rfl) ?_
          refine lv_iadd hx hb d_Mo_square_140 ?_
          refine topi_eq (nI_add (4096 + (((256 * z) + (16 * y)) + x)) 1) ?_
          refine lv_dup2_11 hx hb d_Mo_square_141 rfl rfl ?_
          refine mo_ialdN hC hK hM 35 ((4096 + (((256 * z) + (16 * y)) + x)) + 1) (by decide) rfl (n := 12288) rfl (by decide) (i := nI ((4096 + (((256 * z) + (16 * y)) + x)) + 1)) (rfl) (by omega) (v := (a 35) ((4096 + (((256 * z) + (16 * y)) + x)) + 1)) ((pk_un (by omega)).trans ((pk_un (by omega)).trans (pk_un (by omega)))) d_Mo_square_142 ?_
          refine lv_iconst (v := 1) hx hb d_Mo_square_143 (by decide) ?_
          refine lv_iadd hx hb d_Mo_square_144 ?_
          refine mo_iastN hC hK hM 35 ((4096 + (((256 * z) + (16 * y)) + x)) + 1) (by decide) rfl (n := 12288) rfl (by decide) (i := nI ((4096 + (((256 * z) + (16 * y)) + x)) + 1)) (x := ((a 35) ((4096 + (((256 * z) + (16 * y)) + x)) + 1)) + 1) (rfl) (by omega) d_Mo_square_145 (fun H locs hM => ?_)
          rw [bx_uu] at hM
          replace hM : MO D cT ad I J (va_up a 35 (upd (upd (upd (upd (a 35) (0 + (((256 * z) + (16 * y)) + x)) (((a 35) (0 + (((256 * z) + (16 * y)) + x))) + 1)) ((0 + (((256 * z) + (16 * y)) + x)) + 16) (((a 35) ((0 + (((256 * z) + (16 * y)) + x)) + 16)) + 1)) (4096 + (((256 * z) + (16 * y)) + x)) (((a 35) (4096 + (((256 * z) + (16 * y)) + x))) + 1)) ((4096 + (((256 * z) + (16 * y)) + x)) + 1) (((a 35) ((4096 + (((256 * z) + (16 * y)) + x)) + 1)) + 1))) g s.heap H locs := hM
          refine lv_aload_n hx hb d_Mo_square_146 rfl (lv_at hl 5 rfl) ?_
          refine mo_getr hC hK hM 36 wf_Mo_69 rfl (by decide) (by decide) d_Mo_square_147 ?_
          refine lv_iload hx hb d_Mo_square_150 (lv_at hl 0 rfl) ?_
          refine lv_iconst (v := 1) hx hb d_Mo_square_152 (by decide) ?_
          refine mo_zastN hC hK hM 36 (((256 * z) + (16 * y)) + x) (by decide) rfl (n := 4096) rfl (by decide) (i := nI (((256 * z) + (16 * y)) + x)) (x := 1) (rfl) (by omega) (by first | exact Or.inl rfl | exact Or.inr rfl | exact bI_01) d_Mo_square_153 (fun H locs hM => ?_)
          replace hM : MO D cT ad I J (va_up (va_up a 35 (upd (upd (upd (upd (a 35) (0 + (((256 * z) + (16 * y)) + x)) (((a 35) (0 + (((256 * z) + (16 * y)) + x))) + 1)) ((0 + (((256 * z) + (16 * y)) + x)) + 16) (((a 35) ((0 + (((256 * z) + (16 * y)) + x)) + 16)) + 1)) (4096 + (((256 * z) + (16 * y)) + x)) (((a 35) (4096 + (((256 * z) + (16 * y)) + x))) + 1)) ((4096 + (((256 * z) + (16 * y)) + x)) + 1) (((a 35) ((4096 + (((256 * z) + (16 * y)) + x)) + 1)) + 1))) 36 (upd (a 36) (((256 * z) + (16 * y)) + x) 1)) g s.heap H locs := hM
          refine lv_aload_n hx hb d_Mo_square_154 rfl (lv_at hl 5 rfl) ?_
          refine mo_getr hC hK hM 36 wf_Mo_69 rfl (by decide) (by decide) d_Mo_square_155 ?_
          refine lv_iload hx hb d_Mo_square_158 (lv_at hl 0 rfl) ?_
          refine lv_iload hx hb d_Mo_square_160 (lv_at hl 4 rfl) ?_
          refine lv_iadd hx hb d_Mo_square_162 ?_
          refine topi_eq (nI_add (((256 * z) + (16 * y)) + x) 1) ?_
          refine lv_iconst (v := 1) hx hb d_Mo_square_163 (by decide) ?_
          refine mo_zastN hC hK hM 36 ((((256 * z) + (16 * y)) + x) + 1) (by decide) rfl (n := 4096) rfl (by decide) (i := nI ((((256 * z) + (16 * y)) + x) + 1)) (x := 1) (rfl) (by omega) (by first | exact Or.inl rfl | exact Or.inr rfl | exact bI_01) d_Mo_square_164 (fun H locs hM => ?_)
          rw [bx_uu] at hM
          replace hM : MO D cT ad I J (va_up (va_up a 35 (upd (upd (upd (upd (a 35) (0 + (((256 * z) + (16 * y)) + x)) (((a 35) (0 + (((256 * z) + (16 * y)) + x))) + 1)) ((0 + (((256 * z) + (16 * y)) + x)) + 16) (((a 35) ((0 + (((256 * z) + (16 * y)) + x)) + 16)) + 1)) (4096 + (((256 * z) + (16 * y)) + x)) (((a 35) (4096 + (((256 * z) + (16 * y)) + x))) + 1)) ((4096 + (((256 * z) + (16 * y)) + x)) + 1) (((a 35) ((4096 + (((256 * z) + (16 * y)) + x)) + 1)) + 1))) 36 (upd (upd (a 36) (((256 * z) + (16 * y)) + x) 1) ((((256 * z) + (16 * y)) + x) + 1) 1)) g s.heap H locs := hM
          refine lv_aload_n hx hb d_Mo_square_165 rfl (lv_at hl 5 rfl) ?_
          refine mo_getr hC hK hM 36 wf_Mo_69 rfl (by decide) (by decide) d_Mo_square_166 ?_
          refine lv_iload hx hb d_Mo_square_169 (lv_at hl 0 rfl) ?_
          refine lv_iload hx hb d_Mo_square_171 (lv_at hl 3 rfl) ?_
          refine lv_iadd hx hb d_Mo_square_173 ?_
          refine topi_eq (nI_add (((256 * z) + (16 * y)) + x) 16) ?_
          refine lv_iconst (v := 1) hx hb d_Mo_square_174 (by decide) ?_
          refine mo_zastN hC hK hM 36 ((((256 * z) + (16 * y)) + x) + 16) (by decide) rfl (n := 4096) rfl (by decide) (i := nI ((((256 * z) + (16 * y)) + x) + 16)) (x := 1) (rfl) (by omega) (by first | exact Or.inl rfl | exact Or.inr rfl | exact bI_01) d_Mo_square_175 (fun H locs hM => ?_)
          rw [bx_uu] at hM
          replace hM : MO D cT ad I J (va_up (va_up a 35 (upd (upd (upd (upd (a 35) (0 + (((256 * z) + (16 * y)) + x)) (((a 35) (0 + (((256 * z) + (16 * y)) + x))) + 1)) ((0 + (((256 * z) + (16 * y)) + x)) + 16) (((a 35) ((0 + (((256 * z) + (16 * y)) + x)) + 16)) + 1)) (4096 + (((256 * z) + (16 * y)) + x)) (((a 35) (4096 + (((256 * z) + (16 * y)) + x))) + 1)) ((4096 + (((256 * z) + (16 * y)) + x)) + 1) (((a 35) ((4096 + (((256 * z) + (16 * y)) + x)) + 1)) + 1))) 36 (upd (upd (upd (a 36) (((256 * z) + (16 * y)) + x) 1) ((((256 * z) + (16 * y)) + x) + 1) 1) ((((256 * z) + (16 * y)) + x) + 16) 1)) g s.heap H locs := hM
          refine lv_aload_n hx hb d_Mo_square_176 rfl (lv_at hl 5 rfl) ?_
          refine mo_getr hC hK hM 36 wf_Mo_69 rfl (by decide) (by decide) d_Mo_square_177 ?_
          refine lv_iload hx hb d_Mo_square_180 (lv_at hl 0 rfl) ?_
          refine lv_iload hx hb d_Mo_square_182 (lv_at hl 4 rfl) ?_
          refine lv_iadd hx hb d_Mo_square_184 ?_
          refine topi_eq (nI_add (((256 * z) + (16 * y)) + x) 1) ?_
          refine lv_iload hx hb d_Mo_square_185 (lv_at hl 3 rfl) ?_
          refine lv_iadd hx hb d_Mo_square_187 ?_
          refine topi_eq (nI_add ((((256 * z) + (16 * y)) + x) + 1) 16) ?_
          refine lv_iconst (v := 1) hx hb d_Mo_square_188 (by decide) ?_
          refine mo_zastN hC hK hM 36 (((((256 * z) + (16 * y)) + x) + 1) + 16) (by decide) rfl (n := 4096) rfl (by decide) (i := nI (((((256 * z) + (16 * y)) + x) + 1) + 16)) (x := 1) (rfl) (by omega) (by first | exact Or.inl rfl | exact Or.inr rfl | exact bI_01) d_Mo_square_189 (fun H locs hM => ?_)
          rw [bx_uu] at hM
          replace hM : MO D cT ad I J (va_up (va_up a 35 (upd (upd (upd (upd (a 35) (0 + (((256 * z) + (16 * y)) + x)) (((a 35) (0 + (((256 * z) + (16 * y)) + x))) + 1)) ((0 + (((256 * z) + (16 * y)) + x)) + 16) (((a 35) ((0 + (((256 * z) + (16 * y)) + x)) + 16)) + 1)) (4096 + (((256 * z) + (16 * y)) + x)) (((a 35) (4096 + (((256 * z) + (16 * y)) + x))) + 1)) ((4096 + (((256 * z) + (16 * y)) + x)) + 1) (((a 35) ((4096 + (((256 * z) + (16 * y)) + x)) + 1)) + 1))) 36 (upd (upd (upd (upd (a 36) (((256 * z) + (16 * y)) + x) 1) ((((256 * z) + (16 * y)) + x) + 1) 1) ((((256 * z) + (16 * y)) + x) + 16) 1) (((((256 * z) + (16 * y)) + x) + 1) + 16) 1)) g s.heap H locs := hM
          refine hret _ _ _ _ _ _ _ _ d_Mo_square_190 hM ?_
          subst h2
          exact ⟨_, _, rfl, fun j => up4e _ (by simp only [tE, Bool.or_eq_true, beq_iff_eq, reduceIte, Nat.reduceEqDiff, Nat.one_ne_zero, if_true, if_false]; (try omega)), fun j => up4c _ (by simp only [tC, Bool.or_eq_true, beq_iff_eq, reduceIte, Nat.reduceEqDiff, Nat.one_ne_zero, if_true, if_false]; (try omega))⟩
      · exfalso; omega
  · skip
    refine lv_bipush (v := 16) hx hb d_Mo_square_5 (by decide) ?_
    refine lv_goto (tgt := 11) hx hb d_Mo_square_7 (by decide) ?_
    refine lv_istore (lv' := [(5, .int 16), (0, .ref (ad 46)), (1, .int (nI x)), (2, .int (nI y)), (3, .int (nI z)), (4, .int (nI ax))]) hx hb d_Mo_square_11 hl (by decide) rfl (fun ls hl => ?_)
    refine lv_iload hx hb d_Mo_square_13 (lv_at hl 5 rfl) ?_
    refine lv_iconst (v := 2) hx hb d_Mo_square_15 (by decide) ?_
    refine nc_ne hx hb ax 2 (by omega) (by omega) d_Mo_square_16 (tgt := 24) (by decide) (fun h7 => ?_) (fun h7 => ?_)
    · skip
      refine lv_sipush (v := 256) hx hb d_Mo_square_24 (by decide) ?_
      refine lv_istore (lv' := [(6, .int 256), (5, .int 16), (0, .ref (ad 46)), (1, .int (nI x)), (2, .int (nI y)), (3, .int (nI z)), (4, .int (nI ax))]) hx hb d_Mo_square_27 hl (by decide) rfl (fun ls hl => ?_)
      refine lv_iload hx hb d_Mo_square_29 (lv_at hl 6 rfl) ?_
      refine nz_ne hx hb ax (by omega) d_Mo_square_31 (tgt := 38) (by decide) (fun h8 => ?_) (fun h8 => ?_)
      · exfalso; omega
      · skip
        refine lv_iconst (v := 1) hx hb d_Mo_square_34 (by decide) ?_
        refine lv_goto (tgt := 39) hx hb d_Mo_square_35 (by decide) ?_
        refine lv_istore (lv' := [(7, .int 1), (6, .int 256), (5, .int 16), (0, .ref (ad 46)), (1, .int (nI x)), (2, .int (nI y)), (3, .int (nI z)), (4, .int (nI ax))]) hx hb d_Mo_square_39 hl (by decide) rfl (fun ls hl => ?_)
        refine lv_iload hx hb d_Mo_square_41 (lv_at hl 7 rfl) ?_
        refine lv_iconst (v := 2) hx hb d_Mo_square_43 (by decide) ?_
        refine nc_ne hx hb ax 2 (by omega) (by omega) d_Mo_square_44 (tgt := 51) (by decide) (fun h9 => ?_) (fun h9 => ?_)
        · skip
          refine lv_iconst (v := 2) hx hb d_Mo_square_51 (by decide) ?_
          refine lv_istore (lv' := [(8, .int 2), (7, .int 1), (6, .int 256), (5, .int 16), (0, .ref (ad 46)), (1, .int (nI x)), (2, .int (nI y)), (3, .int (nI z)), (4, .int (nI ax))]) hx hb d_Mo_square_52 hl (by decide) rfl (fun ls hl => ?_)
          refine lv_sipush (v := 256) hx hb d_Mo_square_54 (by decide) ?_
          refine lv_iload_n hx hb d_Mo_square_57 rfl (lv_at hl 7 rfl) ?_
          refine lv_imul hx hb d_Mo_square_58 ?_
          refine topi_eq (pk_mul 256 z) ?_
          refine lv_bipush (v := 16) hx hb d_Mo_square_59 (by decide) ?_
          refine lv_iload_n hx hb d_Mo_square_61 rfl (lv_at hl 6 rfl) ?_
          refine lv_imul hx hb d_Mo_square_62 ?_
          refine topi_eq (pk_mul 16 y) ?_
          refine lv_iadd hx hb d_Mo_square_63 ?_
          refine topi_eq (nI_add (256 * z) (16 * y)) ?_
          refine lv_iload_n hx hb d_Mo_square_64 rfl (lv_at hl 5 rfl) ?_
          refine lv_iadd hx hb d_Mo_square_65 ?_
          refine topi_eq (nI_add ((256 * z) + (16 * y)) x) ?_
          refine lv_istore (lv' := [(9, .int (nI (((256 * z) + (16 * y)) + x))), (8, .int 2), (7, .int 1), (6, .int 256), (5, .int 16), (0, .ref (ad 46)), (1, .int (nI x)), (2, .int (nI y)), (3, .int (nI z)), (4, .int (nI ax))]) hx hb d_Mo_square_66 hl (by decide) rfl (fun ls hl => ?_)
          refine lv_aload_n hx hb d_Mo_square_68 rfl (lv_at hl 5 rfl) ?_
          refine mo_getr hC hK hM 35 wf_Mo_66 rfl (by decide) (by decide) d_Mo_square_69 ?_
          refine lv_sipush (v := 4096) hx hb d_Mo_square_72 (by decide) ?_
          refine lv_iload hx hb d_Mo_square_75 (lv_at hl 2 rfl) ?_
          refine lv_imul hx hb d_Mo_square_77 ?_
          refine topi_eq (show (4096 : Int32) * 1 = 4096 by decide) ?_
          refine lv_iload hx hb d_Mo_square_78 (lv_at hl 0 rfl) ?_
          refine lv_iadd hx hb d_Mo_square_80 ?_
          refine topi_eq (nI_add 4096 (((256 * z) + (16 * y)) + x)) ?_
          refine lv_dup2_11 hx hb d_Mo_square_81 rfl rfl ?_
          refine mo_ialdN hC hK hM 35 (4096 + (((256 * z) + (16 * y)) + x)) (by decide) rfl (n := 12288) rfl (by decide) (i := nI (4096 + (((256 * z) + (16 * y)) + x))) (rfl) (by omega) (v := (a 35) (4096 + (((256 * z) + (16 * y)) + x))) (rfl) d_Mo_square_82 ?_
          refine lv_iconst (v := 1) hx hb d_Mo_square_83 (by decide) ?_
          refine lv_iadd hx hb d_Mo_square_84 ?_
          refine mo_iastN hC hK hM 35 (4096 + (((256 * z) + (16 * y)) + x)) (by decide) rfl (n := 12288) rfl (by decide) (i := nI (4096 + (((256 * z) + (16 * y)) + x))) (x := ((a 35) (4096 + (((256 * z) + (16 * y)) + x))) + 1) (rfl) (by omega) d_Mo_square_85 (fun H locs hM => ?_)
          refine lv_aload_n hx hb d_Mo_square_86 rfl (lv_at hl 5 rfl) ?_
          refine mo_getr hC hK hM 35 wf_Mo_66 rfl (by decide) (by decide) d_Mo_square_87 ?_
          refine lv_sipush (v := 4096) hx hb d_Mo_square_90 (by decide) ?_
          refine lv_iload hx hb d_Mo_square_93 (lv_at hl 2 rfl) ?_
          refine lv_imul hx hb d_Mo_square_95 ?_
          refine topi_eq (show (4096 : Int32) * 1 = 4096 by decide) ?_
          refine lv_iload hx hb d_Mo_square_96 (lv_at hl 0 rfl) ?_
          refine lv_iadd hx hb d_Mo_square_98 ?_
          refine topi_eq (nI_add 4096 (((256 * z) + (16 * y)) + x)) ?_
          refine lv_iload hx hb d_Mo_square_99 (lv_at hl 3 rfl) ?_
          refine lv_iadd hx hb d_Mo_square_101 ?_
          refine topi_eq (nI_add (4096 + (((256 * z) + (16 * y)) + x)) 256) ?_
          refine lv_dup2_11 hx hb d_Mo_square_102 rfl rfl ?_
          refine mo_ialdN hC hK hM 35 ((4096 + (((256 * z) + (16 * y)) + x)) + 256) (by decide) rfl (n := 12288) rfl (by decide) (i := nI ((4096 + (((256 * z) + (16 * y)) + x)) + 256)) (rfl) (by omega) (v := (a 35) ((4096 + (((256 * z) + (16 * y)) + x)) + 256)) (pk_un (by omega)) d_Mo_square_103 ?_
          refine lv_iconst (v := 1) hx hb d_Mo_square_104 (by decide) ?_
          refine lv_iadd hx hb d_Mo_square_105 ?_
          refine mo_iastN hC hK hM 35 ((4096 + (((256 * z) + (16 * y)) + x)) + 256) (by decide) rfl (n := 12288) rfl (by decide) (i := nI ((4096 + (((256 * z) + (16 * y)) + x)) + 256)) (x := ((a 35) ((4096 + (((256 * z) + (16 * y)) + x)) + 256)) + 1) (rfl) (by omega) d_Mo_square_106 (fun H locs hM => ?_)
          rw [bx_uu] at hM
          replace hM : MO D cT ad I J (va_up a 35 (upd (upd (a 35) (4096 + (((256 * z) + (16 * y)) + x)) (((a 35) (4096 + (((256 * z) + (16 * y)) + x))) + 1)) ((4096 + (((256 * z) + (16 * y)) + x)) + 256) (((a 35) ((4096 + (((256 * z) + (16 * y)) + x)) + 256)) + 1))) g s.heap H locs := hM
          refine lv_aload_n hx hb d_Mo_square_107 rfl (lv_at hl 5 rfl) ?_
          refine mo_getr hC hK hM 35 wf_Mo_66 rfl (by decide) (by decide) d_Mo_square_108 ?_
          refine lv_sipush (v := 4096) hx hb d_Mo_square_111 (by decide) ?_
          refine lv_iload hx hb d_Mo_square_114 (lv_at hl 1 rfl) ?_
          refine lv_imul hx hb d_Mo_square_116 ?_
          refine topi_eq (show (4096 : Int32) * 2 = 8192 by decide) ?_
          refine lv_iload hx hb d_Mo_square_117 (lv_at hl 0 rfl) ?_
          refine lv_iadd hx hb d_Mo_square_119 ?_
          refine topi_eq (nI_add 8192 (((256 * z) + (16 * y)) + x)) ?_
          refine lv_dup2_11 hx hb d_Mo_square_120 rfl rfl ?_
          refine mo_ialdN hC hK hM 35 (8192 + (((256 * z) + (16 * y)) + x)) (by decide) rfl (n := 12288) rfl (by decide) (i := nI (8192 + (((256 * z) + (16 * y)) + x))) (rfl) (by omega) (v := (a 35) (8192 + (((256 * z) + (16 * y)) + x))) ((pk_un (by omega)).trans (pk_un (by omega))) d_Mo_square_121 ?_
          refine lv_iconst (v := 1) hx hb d_Mo_square_122 (by decide) ?_
          refine lv_iadd hx hb d_Mo_square_123 ?_
          refine mo_iastN hC hK hM 35 (8192 + (((256 * z) + (16 * y)) + x)) (by decide) rfl (n := 12288) rfl (by decide) (i := nI (8192 + (((256 * z) + (16 * y)) + x))) (x := ((a 35) (8192 + (((256 * z) + (16 * y)) + x))) + 1) (rfl) (by omega) d_Mo_square_124 (fun H locs hM => ?_)
          rw [bx_uu] at hM
          replace hM : MO D cT ad I J (va_up a 35 (upd (upd (upd (a 35) (4096 + (((256 * z) + (16 * y)) + x)) (((a 35) (4096 + (((256 * z) + (16 * y)) + x))) + 1)) ((4096 + (((256 * z) + (16 * y)) + x)) + 256) (((a 35) ((4096 + (((256 * z) + (16 * y)) + x)) + 256)) + 1)) (8192 + (((256 * z) + (16 * y)) + x)) (((a 35) (8192 + (((256 * z) + (16 * y)) + x))) + 1))) g s.heap H locs := hM
          refine lv_aload_n hx hb d_Mo_square_125 rfl (lv_at hl 5 rfl) ?_
          refine mo_getr hC hK hM 35 wf_Mo_66 rfl (by decide) (by decide) d_Mo_square_126 ?_
          refine lv_sipush (v := 4096) hx hb d_Mo_square_129 (by decide) ?_
          refine lv_iload hx hb d_Mo_square_132 (lv_at hl 1 rfl) ?_
          refine lv_imul hx hb d_Mo_square_134 ?_
          refine topi_eq (show (4096 : Int32) * 2 = 8192 by decide) ?_
          refine lv_iload hx hb d_Mo_square_135 (lv_at hl 0 rfl) ?_
          refine lv_iadd hx hb d_Mo_square_137 ?_
          refine topi_eq (nI_add 8192 (((256 * z) + (16 * y)) + x)) ?_
          refine lv_iload hx hb d_Mo_square_138 (lv_at hl 4 rfl) ?_
          refine lv_iadd hx hb d_Mo_square_140 ?_
          refine topi_eq (nI_add (8192 + (((256 * z) + (16 * y)) + x)) 16) ?_
          refine lv_dup2_11 hx hb d_Mo_square_141 rfl rfl ?_
          refine mo_ialdN hC hK hM 35 ((8192 + (((256 * z) + (16 * y)) + x)) + 16) (by decide) rfl (n := 12288) rfl (by decide) (i := nI ((8192 + (((256 * z) + (16 * y)) + x)) + 16)) (rfl) (by omega) (v := (a 35) ((8192 + (((256 * z) + (16 * y)) + x)) + 16)) ((pk_un (by omega)).trans ((pk_un (by omega)).trans (pk_un (by omega)))) d_Mo_square_142 ?_
          refine lv_iconst (v := 1) hx hb d_Mo_square_143 (by decide) ?_
          refine lv_iadd hx hb d_Mo_square_144 ?_
          refine mo_iastN hC hK hM 35 ((8192 + (((256 * z) + (16 * y)) + x)) + 16) (by decide) rfl (n := 12288) rfl (by decide) (i := nI ((8192 + (((256 * z) + (16 * y)) + x)) + 16)) (x := ((a 35) ((8192 + (((256 * z) + (16 * y)) + x)) + 16)) + 1) (rfl) (by omega) d_Mo_square_145 (fun H locs hM => ?_)
          rw [bx_uu] at hM
          replace hM : MO D cT ad I J (va_up a 35 (upd (upd (upd (upd (a 35) (4096 + (((256 * z) + (16 * y)) + x)) (((a 35) (4096 + (((256 * z) + (16 * y)) + x))) + 1)) ((4096 + (((256 * z) + (16 * y)) + x)) + 256) (((a 35) ((4096 + (((256 * z) + (16 * y)) + x)) + 256)) + 1)) (8192 + (((256 * z) + (16 * y)) + x)) (((a 35) (8192 + (((256 * z) + (16 * y)) + x))) + 1)) ((8192 + (((256 * z) + (16 * y)) + x)) + 16) (((a 35) ((8192 + (((256 * z) + (16 * y)) + x)) + 16)) + 1))) g s.heap H locs := hM
          refine lv_aload_n hx hb d_Mo_square_146 rfl (lv_at hl 5 rfl) ?_
          refine mo_getr hC hK hM 36 wf_Mo_69 rfl (by decide) (by decide) d_Mo_square_147 ?_
          refine lv_iload hx hb d_Mo_square_150 (lv_at hl 0 rfl) ?_
          refine lv_iconst (v := 1) hx hb d_Mo_square_152 (by decide) ?_
          refine mo_zastN hC hK hM 36 (((256 * z) + (16 * y)) + x) (by decide) rfl (n := 4096) rfl (by decide) (i := nI (((256 * z) + (16 * y)) + x)) (x := 1) (rfl) (by omega) (by first | exact Or.inl rfl | exact Or.inr rfl | exact bI_01) d_Mo_square_153 (fun H locs hM => ?_)
          replace hM : MO D cT ad I J (va_up (va_up a 35 (upd (upd (upd (upd (a 35) (4096 + (((256 * z) + (16 * y)) + x)) (((a 35) (4096 + (((256 * z) + (16 * y)) + x))) + 1)) ((4096 + (((256 * z) + (16 * y)) + x)) + 256) (((a 35) ((4096 + (((256 * z) + (16 * y)) + x)) + 256)) + 1)) (8192 + (((256 * z) + (16 * y)) + x)) (((a 35) (8192 + (((256 * z) + (16 * y)) + x))) + 1)) ((8192 + (((256 * z) + (16 * y)) + x)) + 16) (((a 35) ((8192 + (((256 * z) + (16 * y)) + x)) + 16)) + 1))) 36 (upd (a 36) (((256 * z) + (16 * y)) + x) 1)) g s.heap H locs := hM
          refine lv_aload_n hx hb d_Mo_square_154 rfl (lv_at hl 5 rfl) ?_
          refine mo_getr hC hK hM 36 wf_Mo_69 rfl (by decide) (by decide) d_Mo_square_155 ?_
          refine lv_iload hx hb d_Mo_square_158 (lv_at hl 0 rfl) ?_
          refine lv_iload hx hb d_Mo_square_160 (lv_at hl 4 rfl) ?_
          refine lv_iadd hx hb d_Mo_square_162 ?_
          refine topi_eq (nI_add (((256 * z) + (16 * y)) + x) 16) ?_
          refine lv_iconst (v := 1) hx hb d_Mo_square_163 (by decide) ?_
          refine mo_zastN hC hK hM 36 ((((256 * z) + (16 * y)) + x) + 16) (by decide) rfl (n := 4096) rfl (by decide) (i := nI ((((256 * z) + (16 * y)) + x) + 16)) (x := 1) (rfl) (by omega) (by first | exact Or.inl rfl | exact Or.inr rfl | exact bI_01) d_Mo_square_164 (fun H locs hM => ?_)
          rw [bx_uu] at hM
          replace hM : MO D cT ad I J (va_up (va_up a 35 (upd (upd (upd (upd (a 35) (4096 + (((256 * z) + (16 * y)) + x)) (((a 35) (4096 + (((256 * z) + (16 * y)) + x))) + 1)) ((4096 + (((256 * z) + (16 * y)) + x)) + 256) (((a 35) ((4096 + (((256 * z) + (16 * y)) + x)) + 256)) + 1)) (8192 + (((256 * z) + (16 * y)) + x)) (((a 35) (8192 + (((256 * z) + (16 * y)) + x))) + 1)) ((8192 + (((256 * z) + (16 * y)) + x)) + 16) (((a 35) ((8192 + (((256 * z) + (16 * y)) + x)) + 16)) + 1))) 36 (upd (upd (a 36) (((256 * z) + (16 * y)) + x) 1) ((((256 * z) + (16 * y)) + x) + 16) 1)) g s.heap H locs := hM
          refine lv_aload_n hx hb d_Mo_square_165 rfl (lv_at hl 5 rfl) ?_
          refine mo_getr hC hK hM 36 wf_Mo_69 rfl (by decide) (by decide) d_Mo_square_166 ?_
          refine lv_iload hx hb d_Mo_square_169 (lv_at hl 0 rfl) ?_
          refine lv_iload hx hb d_Mo_square_171 (lv_at hl 3 rfl) ?_
          refine lv_iadd hx hb d_Mo_square_173 ?_
          refine topi_eq (nI_add (((256 * z) + (16 * y)) + x) 256) ?_
          refine lv_iconst (v := 1) hx hb d_Mo_square_174 (by decide) ?_
          refine mo_zastN hC hK hM 36 ((((256 * z) + (16 * y)) + x) + 256) (by decide) rfl (n := 4096) rfl (by decide) (i := nI ((((256 * z) + (16 * y)) + x) + 256)) (x := 1) (rfl) (by omega) (by first | exact Or.inl rfl | exact Or.inr rfl | exact bI_01) d_Mo_square_175 (fun H locs hM => ?_)
          rw [bx_uu] at hM
          replace hM : MO D cT ad I J (va_up (va_up a 35 (upd (upd (upd (upd (a 35) (4096 + (((256 * z) + (16 * y)) + x)) (((a 35) (4096 + (((256 * z) + (16 * y)) + x))) + 1)) ((4096 + (((256 * z) + (16 * y)) + x)) + 256) (((a 35) ((4096 + (((256 * z) + (16 * y)) + x)) + 256)) + 1)) (8192 + (((256 * z) + (16 * y)) + x)) (((a 35) (8192 + (((256 * z) + (16 * y)) + x))) + 1)) ((8192 + (((256 * z) + (16 * y)) + x)) + 16) (((a 35) ((8192 + (((256 * z) + (16 * y)) + x)) + 16)) + 1))) 36 (upd (upd (upd (a 36) (((256 * z) + (16 * y)) + x) 1) ((((256 * z) + (16 * y)) + x) + 16) 1) ((((256 * z) + (16 * y)) + x) + 256) 1)) g s.heap H locs := hM
          refine lv_aload_n hx hb d_Mo_square_176 rfl (lv_at hl 5 rfl) ?_
          refine mo_getr hC hK hM 36 wf_Mo_69 rfl (by decide) (by decide) d_Mo_square_177 ?_
          refine lv_iload hx hb d_Mo_square_180 (lv_at hl 0 rfl) ?_
          refine lv_iload hx hb d_Mo_square_182 (lv_at hl 4 rfl) ?_
          refine lv_iadd hx hb d_Mo_square_184 ?_
          refine topi_eq (nI_add (((256 * z) + (16 * y)) + x) 16) ?_
          refine lv_iload hx hb d_Mo_square_185 (lv_at hl 3 rfl) ?_
          refine lv_iadd hx hb d_Mo_square_187 ?_
          refine topi_eq (nI_add ((((256 * z) + (16 * y)) + x) + 16) 256) ?_
          refine lv_iconst (v := 1) hx hb d_Mo_square_188 (by decide) ?_
          refine mo_zastN hC hK hM 36 (((((256 * z) + (16 * y)) + x) + 16) + 256) (by decide) rfl (n := 4096) rfl (by decide) (i := nI (((((256 * z) + (16 * y)) + x) + 16) + 256)) (x := 1) (rfl) (by omega) (by first | exact Or.inl rfl | exact Or.inr rfl | exact bI_01) d_Mo_square_189 (fun H locs hM => ?_)
          rw [bx_uu] at hM
          replace hM : MO D cT ad I J (va_up (va_up a 35 (upd (upd (upd (upd (a 35) (4096 + (((256 * z) + (16 * y)) + x)) (((a 35) (4096 + (((256 * z) + (16 * y)) + x))) + 1)) ((4096 + (((256 * z) + (16 * y)) + x)) + 256) (((a 35) ((4096 + (((256 * z) + (16 * y)) + x)) + 256)) + 1)) (8192 + (((256 * z) + (16 * y)) + x)) (((a 35) (8192 + (((256 * z) + (16 * y)) + x))) + 1)) ((8192 + (((256 * z) + (16 * y)) + x)) + 16) (((a 35) ((8192 + (((256 * z) + (16 * y)) + x)) + 16)) + 1))) 36 (upd (upd (upd (upd (a 36) (((256 * z) + (16 * y)) + x) 1) ((((256 * z) + (16 * y)) + x) + 16) 1) ((((256 * z) + (16 * y)) + x) + 256) 1) (((((256 * z) + (16 * y)) + x) + 16) + 256) 1)) g s.heap H locs := hM
          refine hret _ _ _ _ _ _ _ _ d_Mo_square_190 hM ?_
          subst h1
          exact ⟨_, _, rfl, fun j => up4e _ (by simp only [tE, Bool.or_eq_true, beq_iff_eq, reduceIte, Nat.reduceEqDiff, Nat.one_ne_zero, if_true, if_false]; (try omega)), fun j => up4c _ (by simp only [tC, Bool.or_eq_true, beq_iff_eq, reduceIte, Nat.reduceEqDiff, Nat.one_ne_zero, if_true, if_false]; (try omega))⟩
        · exfalso; omega
    · exfalso; omega
set_option maxHeartbeats 2000000 in
set_option maxRecDepth 100000 in
theorem c_Mo_skin (l : Launch) (D : va_G) (cT : Nat → ClassId) (ad : Nat → Nat) (I : Nat → Int32) (J : Nat → Int64) (a : Nat → Nat → Int32) (g : Nat → Nat → Int64) (b : Int32) (what : Int32) (nbo : Nat) (T : Nat → TX) (hnb : I 0 = nI nbo) (h8 : nbo ≤ 8) (hT : ∀ q, q < nbo → BDT a q (T q)) : MMi l D cT ad y_Mo_skin b_Mo_skin 8 (some .int) 6 169 [.int b, .int what] I J a g (fun r u => SP I a u ∧ r = if (0 ≤ b.toInt ∧ b.toInt < (nbo : Int)) ∧ 0 ≤ what.toInt ∧ what.toInt ≤ 3 then (if what.toInt = 0 then nI (cn (sq1 (T b.toInt.toNat)) 20250) else if what.toInt = 1 then nI (cn (fun j => decide (0 < sE (T b.toInt.toNat) j)) 12288) else if what.toInt = 2 then nI (cn (sC (T b.toInt.toNat)) 4096) else nI (cn (fun j => decide (sE (T b.toInt.toNat) j = 4)) 12288)) else -1) := by
  refine mo_enti (by decide) rfl (Nat.le_of_ble_eq_true rfl) ?_
  intro p e s m args below meth c Q hC hK hM hret ls hl
  have hx := hC.1
  have hb := hC.2.1
  replace hl : lv_has ls 8 [(0, .ref (ad 46)), (1, .int b), (2, .int what)] := hl
  refine lv_aload_n hx hb d_Mo_skin_0 rfl (lv_at hl 0 rfl) ?_
  refine lv_iload_n hx hb d_Mo_skin_1 rfl (lv_at hl 1 rfl) ?_
  refine mo_callr (np := 1) hC hK hM (c_Mo_is l D cT ad I J a g b nbo hnb h8) rfl ⟨wl_Mo_204, wi_Mo_is, ws_Mo_is, wc_Mo_is, wn_Mo⟩ ⟨by decide, by decide, by decide +kernel⟩ ⟨Nat.le_of_ble_eq_true rfl, Nat.le_of_ble_eq_true rfl⟩ hl.1 rfl (rest := []) rfl (Nat.le_of_ble_eq_true rfl) ⟨Nat.zero_le _, Nat.zero_le _⟩ d_Mo_skin_2 (fun rr hrr => ?_)
  subst hrr
  refine bz_eq (tgt := 20) hx hb d_Mo_skin_5 (by decide) (fun h1 => ?_) (fun h1 => ?_)
  · skip
    refine lv_iconst (v := (-1)) hx hb d_Mo_skin_20 (by decide) ?_
    exact hret _ _ _ _ _ _ _ _ _ d_Mo_skin_21 hM (⟨SP_a (fun _ _ => rfl), by rw [if_neg (by omega)]⟩)
  · skip
    refine lv_iload_n hx hb d_Mo_skin_8 rfl (lv_at hl 2 rfl) ?_
    refine lv_i2l (v := iL what.toInt) hx hb d_Mo_skin_9 (x_l _) ?_
    refine lv_lconst (v := 0) hx hb d_Mo_skin_10 (by decide) ?_
    refine lv_ldc2 (v := 3) hx hb hC.2.2.2.1 (hC.2.2.2.2 _ wx_Mo_266) d_Mo_skin_11 ?_
    refine st_calli (np := 3) hC (c_Mo_in l (iL (what.toInt)) 0 3 what.toInt 0 3 (iL_tx what) rfl rfl) ⟨wl_Mo_91, wt_Mo_in, wc_Mo_in, wn_Mo⟩ ⟨by decide, by decide, by decide +kernel⟩ ⟨Nat.le_of_ble_eq_true rfl, Nat.le_of_ble_eq_true rfl⟩ hl.1 rfl (rest := []) rfl (Nat.le_of_ble_eq_true rfl) ⟨Nat.zero_le _, Nat.zero_le _⟩ d_Mo_skin_14 (fun rr hrr => ?_)
    subst hrr
    refine bz_ne (tgt := 22) hx hb d_Mo_skin_17 (by decide) (fun h2 => ?_) (fun h2 => ?_)
    · skip
      obtain ⟨q, hq, rfl, hqt⟩ := ex_nI (n := 7) (x := b) (by omega) (by omega)
      have hqn : q < nbo := by omega
      refine lv_aload_n hx hb d_Mo_skin_22 rfl (lv_at hl 0 rfl) ?_
      refine lv_iload_n hx hb d_Mo_skin_23 rfl (lv_at hl 1 rfl) ?_
      refine mo_callv (np := 1) hC hK hM (c_Mo_ask l D cT ad I J a g q (T q) (by omega) (hT q (by omega))) rfl ⟨wl_Mo_263, wi_Mo_ask, ws_Mo_ask, wc_Mo_ask, wn_Mo⟩ ⟨by decide, by decide, by decide +kernel⟩ ⟨Nat.le_of_ble_eq_true rfl, Nat.le_of_ble_eq_true rfl⟩ hl.1 rfl (rest := []) rfl (Nat.le_of_ble_eq_true rfl) ⟨Nat.zero_le _, Nat.zero_le _⟩ d_Mo_skin_24 (fun I3 J3 a3 g3 H locs hp3 hM => ?_)
      obtain ⟨hI_p3, hA_p3⟩ := hp3
      replace hI_p3 : I3 = I := hI_p3
      replace hA_p3 : a3 = va_up a 33 (pt (a 33) (wi (T q)) 0 3375) := hA_p3
      rw [hI_p3, hA_p3] at hM
      refine lv_iconst (v := 0) hx hb d_Mo_skin_27 (by decide) ?_
      refine lv_istore_n (lv' := [(3, .int 0), (0, .ref (ad 46)), (1, .int (nI q)), (2, .int what)]) hx hb d_Mo_skin_28 rfl hl (by decide) rfl (fun ls hl => ?_)
      have hL29 : ∀ (nn : Nat) (k : Nat) (H : Heap) (locs : List Loc) (ls : Array Slot), 12288 - k < nn → (k ≤ 12288) → MO D cT ad I J3 (va_up (va_up a 33 (pt (a 33) (wi (T q)) 0 3375)) 35 (zr (a 35) 0 k)) g3 s.heap H locs → lv_has ls 8 [(0, .ref (ad 46)), (2, .int what), (3, .int (nI k))] → W p l e (rmOf 6 169) s m args below meth c H locs 0 0 Q (F0 m 29 ls []) := by
        intro nn
        induction nn with
        | zero =>
          intro k H locs ls hmeas29 hk hM hl
          exact absurd hmeas29 (Nat.not_lt_zero _)
        | succ nn ih29 =>
          intro k H locs ls hmeas29 hk hM hl
          refine lv_iload_n hx hb d_Mo_skin_29 rfl (lv_at hl 2 rfl) ?_
          refine lv_sipush (v := 12288) hx hb d_Mo_skin_30 (by decide) ?_
          refine nc_ge hx hb k 12288 (by omega) (by omega) d_Mo_skin_33 (tgt := 49) (by decide) (fun h4 => ?_) (fun h4 => ?_)
          · skip
            obtain rfl : k = 12288 := by omega
            refine lv_iconst (v := 0) hx hb d_Mo_skin_49 (by decide) ?_
            refine lv_istore_n (lv' := [(3, .int 0), (0, .ref (ad 46)), (2, .int what)]) hx hb d_Mo_skin_50 rfl hl (by decide) rfl (fun ls hl => ?_)
            have hL51 : ∀ (nn : Nat) (k : Nat) (H : Heap) (locs : List Loc) (ls : Array Slot), 4096 - k < nn → (k ≤ 4096) → MO D cT ad I J3 (va_up (va_up (va_up a 33 (pt (a 33) (wi (T q)) 0 3375)) 35 (zr (a 35) 0 12288)) 36 (zr (a 36) 0 k)) g3 s.heap H locs → lv_has ls 8 [(0, .ref (ad 46)), (2, .int what), (3, .int (nI k))] → W p l e (rmOf 6 169) s m args below meth c H locs 0 0 Q (F0 m 51 ls []) := by
              intro nn
              induction nn with
              | zero =>
                intro k H locs ls hmeas51 hk hM hl
                exact absurd hmeas51 (Nat.not_lt_zero _)
              | succ nn ih51 =>
                intro k H locs ls hmeas51 hk hM hl
                refine lv_iload_n hx hb d_Mo_skin_51 rfl (lv_at hl 2 rfl) ?_
                refine lv_sipush (v := 4096) hx hb d_Mo_skin_52 (by decide) ?_
                refine nc_ge hx hb k 4096 (by omega) (by omega) d_Mo_skin_55 (tgt := 71) (by decide) (fun h5 => ?_) (fun h5 => ?_)
                · skip
                  obtain rfl : k = 4096 := by omega
                  refine lv_iconst (v := 0) hx hb d_Mo_skin_71 (by decide) ?_
                  refine lv_istore_n (lv' := [(3, .int 0), (0, .ref (ad 46)), (2, .int what)]) hx hb d_Mo_skin_72 rfl hl (by decide) rfl (fun ls hl => ?_)
                  refine lv_iconst (v := 0) hx hb d_Mo_skin_73 (by decide) ?_
                  refine lv_istore (lv' := [(4, .int 0), (3, .int 0), (0, .ref (ad 46)), (2, .int what)]) hx hb d_Mo_skin_74 hl (by decide) rfl (fun ls hl => ?_)
                  have hL76 : ∀ (nn : Nat) (k : Nat) (F9 : Nat → Int32) (G9 : Nat → Int32) (H : Heap) (locs : List Loc) (ls : Array Slot), 3375 - k < nn → (k ≤ 3375) → (∀ j, j < 12288 → F9 j = nI (cn (sqE (T q) j) (6 * k))) → (∀ j, j < 4096 → G9 j = bI (0 < cn (sqC (T q) j) (6 * k))) → MO D cT ad I J3 (va_up (va_up (va_up a 33 (pt (a 33) (wi (T q)) 0 3375)) 35 F9) 36 G9) g3 s.heap H locs → lv_has ls 8 [(0, .ref (ad 46)), (2, .int what), (3, .int (nI (cn (sq1 (T q)) (6 * k)))), (4, .int (nI k))] → W p l e (rmOf 6 169) s m args below meth c H locs 0 0 Q (F0 m 76 ls []) := by
                    intro nn
                    induction nn with
                    | zero =>
                      intro k F9 G9 H locs ls hmeas76 hk hF hG hM hl
                      exact absurd hmeas76 (Nat.not_lt_zero _)
                    | succ nn ih76 =>
                      intro k F9 G9 H locs ls hmeas76 hk hF hG hM hl
                      refine lv_iload hx hb d_Mo_skin_76 (lv_at hl 3 rfl) ?_
                      refine lv_sipush (v := 3375) hx hb d_Mo_skin_78 (by decide) ?_
                      refine nc_ge hx hb k 3375 (by omega) (by omega) d_Mo_skin_81 (tgt := 205) (by decide) (fun h6 => ?_) (fun h6 => ?_)
                      · skip
                        obtain rfl : k = 3375 := by omega
                        refine lv_iconst (v := 0) hx hb d_Mo_skin_205 (by decide) ?_
                        refine lv_istore (lv' := [(4, .int 0), (0, .ref (ad 46)), (2, .int what), (3, .int (nI (cn (sq1 (T q)) (6 * 3375))))]) hx hb d_Mo_skin_206 hl (by decide) rfl (fun ls hl => ?_)
                        refine lv_iconst (v := 0) hx hb d_Mo_skin_208 (by decide) ?_
                        refine lv_istore (lv' := [(5, .int 0), (4, .int 0), (0, .ref (ad 46)), (2, .int what), (3, .int (nI (cn (sq1 (T q)) (6 * 3375))))]) hx hb d_Mo_skin_209 hl (by decide) rfl (fun ls hl => ?_)
                        refine lv_iconst (v := 0) hx hb d_Mo_skin_211 (by decide) ?_
                        refine lv_istore (lv' := [(6, .int 0), (5, .int 0), (4, .int 0), (0, .ref (ad 46)), (2, .int what), (3, .int (nI (cn (sq1 (T q)) (6 * 3375))))]) hx hb d_Mo_skin_212 hl (by decide) rfl (fun ls hl => ?_)
                        refine lv_iconst (v := 0) hx hb d_Mo_skin_214 (by decide) ?_
                        refine lv_istore (lv' := [(7, .int 0), (6, .int 0), (5, .int 0), (4, .int 0), (0, .ref (ad 46)), (2, .int what), (3, .int (nI (cn (sq1 (T q)) (6 * 3375))))]) hx hb d_Mo_skin_215 hl (by decide) rfl (fun ls hl => ?_)
                        have hL217 : ∀ (nn : Nat) (k : Nat) (H : Heap) (locs : List Loc) (ls : Array Slot), 12288 - k < nn → (k ≤ 12288) → MO D cT ad I J3 (va_up (va_up (va_up a 33 (pt (a 33) (wi (T q)) 0 3375)) 35 F9) 36 G9) g3 s.heap H locs → lv_has ls 8 [(0, .ref (ad 46)), (2, .int what), (3, .int (nI (cn (sq1 (T q)) 20250))), (4, .int (nI (cn (fun j => decide (0 < sE (T q) j)) k))), (5, .int (nI (cn (fun j => decide (sE (T q) j = 4)) k))), (6, .int 0), (7, .int (nI k))] → W p l e (rmOf 6 169) s m args below meth c H locs 0 0 Q (F0 m 217 ls []) := by
                          intro nn
                          induction nn with
                          | zero =>
                            intro k H locs ls hmeas217 hk hM hl
                            exact absurd hmeas217 (Nat.not_lt_zero _)
                          | succ nn ih217 =>
                            intro k H locs ls hmeas217 hk hM hl
                            refine lv_iload hx hb d_Mo_skin_217 (lv_at hl 6 rfl) ?_
                            refine lv_sipush (v := 12288) hx hb d_Mo_skin_219 (by decide) ?_
                            refine nc_ge hx hb k 12288 (by omega) (by omega) d_Mo_skin_222 (tgt := 272) (by decide) (fun h7 => ?_) (fun h7 => ?_)
                            · skip
                              obtain rfl : k = 12288 := by omega
                              refine lv_iconst (v := 0) hx hb d_Mo_skin_272 (by decide) ?_
                              refine lv_istore (lv' := [(7, .int 0), (0, .ref (ad 46)), (2, .int what), (3, .int (nI (cn (sq1 (T q)) 20250))), (4, .int (nI (cn (fun j => decide (0 < sE (T q) j)) 12288))), (5, .int (nI (cn (fun j => decide (sE (T q) j = 4)) 12288))), (6, .int 0)]) hx hb d_Mo_skin_273 hl (by decide) rfl (fun ls hl => ?_)
                              have hL275 : ∀ (nn : Nat) (k : Nat) (H : Heap) (locs : List Loc) (ls : Array Slot), 4096 - k < nn → (k ≤ 4096) → MO D cT ad I J3 (va_up (va_up (va_up a 33 (pt (a 33) (wi (T q)) 0 3375)) 35 F9) 36 G9) g3 s.heap H locs → lv_has ls 8 [(0, .ref (ad 46)), (2, .int what), (3, .int (nI (cn (sq1 (T q)) 20250))), (4, .int (nI (cn (fun j => decide (0 < sE (T q) j)) 12288))), (5, .int (nI (cn (fun j => decide (sE (T q) j = 4)) 12288))), (6, .int (nI (cn (sC (T q)) k))), (7, .int (nI k))] → W p l e (rmOf 6 169) s m args below meth c H locs 0 0 Q (F0 m 275 ls []) := by
                                intro nn
                                induction nn with
                                | zero =>
                                  intro k H locs ls hmeas275 hk hM hl
                                  exact absurd hmeas275 (Nat.not_lt_zero _)
                                | succ nn ih275 =>
                                  intro k H locs ls hmeas275 hk hM hl
                                  refine lv_iload hx hb d_Mo_skin_275 (lv_at hl 6 rfl) ?_
                                  refine lv_sipush (v := 4096) hx hb d_Mo_skin_277 (by decide) ?_
                                  refine nc_ge hx hb k 4096 (by omega) (by omega) d_Mo_skin_280 (tgt := 309) (by decide) (fun h8 => ?_) (fun h8 => ?_)
                                  · skip
                                    refine lv_iload_n hx hb d_Mo_skin_309 rfl (lv_at hl 1 rfl) ?_
                                    refine yz_ne hx hb what.toInt (rfl) d_Mo_skin_310 (tgt := 317) (by decide) (fun h9 => ?_) (fun h9 => ?_)
                                    · skip
                                      refine lv_iload_n hx hb d_Mo_skin_317 rfl (lv_at hl 1 rfl) ?_
                                      refine lv_iconst (v := 1) hx hb d_Mo_skin_318 (by decide) ?_
                                      refine yc_ne hx hb what.toInt 1 (rfl) (rfl) d_Mo_skin_319 (tgt := 327) (by decide) (fun h10 => ?_) (fun h10 => ?_)
                                      · skip
                                        refine lv_iload_n hx hb d_Mo_skin_327 rfl (lv_at hl 1 rfl) ?_
                                        refine lv_iconst (v := 2) hx hb d_Mo_skin_328 (by decide) ?_
                                        refine yc_ne hx hb what.toInt 2 (rfl) (rfl) d_Mo_skin_329 (tgt := 337) (by decide) (fun h11 => ?_) (fun h11 => ?_)
                                        · skip
                                          refine lv_iload hx hb d_Mo_skin_337 (lv_at hl 4 rfl) ?_
                                          refine hret _ _ _ _ _ _ _ _ _ d_Mo_skin_339 hM ?_
                                          obtain rfl : k = 4096 := by omega
                                          refine ⟨SP_a (fun k hk => (va_up_ne _ _ (by omega)).trans ((va_up_ne _ _ (by omega)).trans (va_up_ne _ _ (by omega)))), ?_⟩
                                          rw [if_pos (by omega), hqt]
                                          simp only [Int.toNat_natCast, if_neg h9, if_neg h10, if_neg h11]
                                        · skip
                                          refine lv_iload hx hb d_Mo_skin_332 (lv_at hl 5 rfl) ?_
                                          refine lv_goto (tgt := 339) hx hb d_Mo_skin_334 (by decide) ?_
                                          refine hret _ _ _ _ _ _ _ _ _ d_Mo_skin_339 hM ?_
                                          obtain rfl : k = 4096 := by omega
                                          refine ⟨SP_a (fun k hk => (va_up_ne _ _ (by omega)).trans ((va_up_ne _ _ (by omega)).trans (va_up_ne _ _ (by omega)))), ?_⟩
                                          rw [if_pos (by omega), hqt]
                                          simp only [Int.toNat_natCast, if_neg h9, if_neg h10, if_pos h11]
                                      · skip
                                        refine lv_iload hx hb d_Mo_skin_322 (lv_at hl 3 rfl) ?_
                                        refine lv_goto (tgt := 339) hx hb d_Mo_skin_324 (by decide) ?_
                                        refine hret _ _ _ _ _ _ _ _ _ d_Mo_skin_339 hM ?_
                                        obtain rfl : k = 4096 := by omega
                                        refine ⟨SP_a (fun k hk => (va_up_ne _ _ (by omega)).trans ((va_up_ne _ _ (by omega)).trans (va_up_ne _ _ (by omega)))), ?_⟩
                                        rw [if_pos (by omega), hqt]
                                        simp only [Int.toNat_natCast, if_neg h9, if_pos h10]
                                    · skip
                                      refine lv_iload_n hx hb d_Mo_skin_313 rfl (lv_at hl 2 rfl) ?_
                                      refine lv_goto (tgt := 339) hx hb d_Mo_skin_314 (by decide) ?_
                                      refine hret _ _ _ _ _ _ _ _ _ d_Mo_skin_339 hM ?_
                                      obtain rfl : k = 4096 := by omega
                                      refine ⟨SP_a (fun k hk => (va_up_ne _ _ (by omega)).trans ((va_up_ne _ _ (by omega)).trans (va_up_ne _ _ (by omega)))), ?_⟩
                                      rw [if_pos (by omega), hqt]
                                      simp only [Int.toNat_natCast, if_pos h9]
                                  · skip
                                    refine lv_iload hx hb d_Mo_skin_283 (lv_at hl 5 rfl) ?_
                                    refine lv_aload_n hx hb d_Mo_skin_285 rfl (lv_at hl 0 rfl) ?_
                                    refine mo_getr hC hK hM 36 wf_Mo_69 rfl (by decide) (by decide) d_Mo_skin_286 ?_
                                    refine lv_iload hx hb d_Mo_skin_289 (lv_at hl 6 rfl) ?_
                                    refine mo_zaldN hC hK hM 36 k (by decide) rfl (n := 4096) rfl (by decide) (i := nI k) (rfl) (by omega) (v := bI (sC (T q) k = true)) ((hG k (by omega)).trans (bI_c (by unfold sC; rw [decide_eq_true_iff]))) d_Mo_skin_291 ?_
                                    have hJ12 : ∀ (H : Heap) (locs : List Loc) (ls : Array Slot), MO D cT ad I J3 (va_up (va_up (va_up a 33 (pt (a 33) (wi (T q)) 0 3375)) 35 F9) 36 G9) g3 s.heap H locs → lv_has ls 8 [(0, .ref (ad 46)), (2, .int what), (3, .int (nI (cn (sq1 (T q)) 20250))), (4, .int (nI (cn (fun j => decide (0 < sE (T q) j)) 12288))), (5, .int (nI (cn (fun j => decide (sE (T q) j = 4)) 12288))), (6, .int (nI (cn (sC (T q)) k))), (7, .int (nI k))] → W p l e (rmOf 6 169) s m args below meth c H locs 0 0 Q (F0 m 300 ls [.int (nI (if sC (T q) k = true then 1 else 0)), .int (nI (cn (sC (T q)) k))]) := ?_
                                    · skip
                                      refine bz_eq (tgt := 299) hx hb d_Mo_skin_292 (by decide) (fun h13 => ?_) (fun h13 => ?_)
                                      · skip
                                        refine lv_iconst (v := 0) hx hb d_Mo_skin_299 (by decide) ?_
                                        refine topi_eq (show (0 : Int32) = nI (if sC (T q) k = true then 1 else 0) by first | rfl | exact (bI_t (by assumption)).symm | exact (bI_f (by assumption)).symm | exact (bI_f (fun z => z (by assumption))).symm | (rw [if_neg h13]; done) | (rw [if_neg h13]; rfl) | (simp only [if_neg h13]; done) | (simp only [if_neg h13]; rfl)) ?_
                                        exact hJ12 _ _ _ (by first | exact hM | (simp only [if_neg h13]; exact hM)) (by first | exact lv_sub hl [0, 1, 2, 3, 4, 5, 6] rfl | (simp only [if_neg h13]; exact lv_sub hl [0, 1, 2, 3, 4, 5, 6] rfl))
                                      · skip
                                        refine lv_iconst (v := 1) hx hb d_Mo_skin_295 (by decide) ?_
                                        refine lv_goto (tgt := 300) hx hb d_Mo_skin_296 (by decide) ?_
                                        refine topi_eq (show (1 : Int32) = nI (if sC (T q) k = true then 1 else 0) by first | rfl | exact (bI_t (by assumption)).symm | exact (bI_f (by assumption)).symm | exact (bI_f (fun z => z (by assumption))).symm | (rw [if_pos h13]; done) | (rw [if_pos h13]; rfl) | (simp only [if_pos h13]; done) | (simp only [if_pos h13]; rfl)) ?_
                                        exact hJ12 _ _ _ (by first | exact hM | (simp only [if_pos h13]; exact hM)) (by first | exact lv_sub hl [0, 1, 2, 3, 4, 5, 6] rfl | (simp only [if_pos h13]; exact lv_sub hl [0, 1, 2, 3, 4, 5, 6] rfl))
                                    intro H locs ls hM hl
                                    refine lv_iadd hx hb d_Mo_skin_300 ?_
                                    refine topi_eq (nI_add (cn (sC (T q)) k) (if sC (T q) k = true then 1 else 0)) ?_
                                    refine lv_istore (lv' := [(6, .int (nI ((cn (sC (T q)) k) + (if sC (T q) k = true then 1 else 0)))), (0, .ref (ad 46)), (2, .int what), (3, .int (nI (cn (sq1 (T q)) 20250))), (4, .int (nI (cn (fun j => decide (0 < sE (T q) j)) 12288))), (5, .int (nI (cn (fun j => decide (sE (T q) j = 4)) 12288))), (7, .int (nI k))]) hx hb d_Mo_skin_301 hl (by decide) rfl (fun ls hl => ?_)
                                    refine lv_iinc (v := nI (k + 1)) (lv' := [(7, .int (nI (k + 1))), (6, .int (nI ((cn (sC (T q)) k) + (if sC (T q) k = true then 1 else 0)))), (0, .ref (ad 46)), (2, .int what), (3, .int (nI (cn (sq1 (T q)) 20250))), (4, .int (nI (cn (fun j => decide (0 < sE (T q) j)) 12288))), (5, .int (nI (cn (fun j => decide (sE (T q) j = 4)) 12288)))]) hx hb d_Mo_skin_303 hl (k := 6) rfl (nI_add k 1) (by decide) rfl (fun ls hl => ?_)
                                    refine lv_goto (tgt := 275) hx hb d_Mo_skin_306 (by decide) ?_
                                    exact ih275 (k + 1) _ _ _ (by omega) (by omega) (hM) (lv_sub hl [2, 3, 4, 5, 6, 1, 0] rfl)
                              exact hL275 _ 0 _ _ _ (Nat.lt_succ_self _) (by omega) (hM) (lv_sub hl [1, 2, 3, 4, 5, 6, 0] rfl)
                            · skip
                              have hsE := cn_le (sqE (T q) k) 20250
                              change sE (T q) k ≤ 20250 at hsE
                              refine lv_iload hx hb d_Mo_skin_225 (lv_at hl 3 rfl) ?_
                              refine lv_aload_n hx hb d_Mo_skin_227 rfl (lv_at hl 0 rfl) ?_
                              refine mo_getr hC hK hM 35 wf_Mo_66 rfl (by decide) (by decide) d_Mo_skin_228 ?_
                              refine lv_iload hx hb d_Mo_skin_231 (lv_at hl 6 rfl) ?_
                              refine mo_ialdN hC hK hM 35 k (by decide) rfl (n := 12288) rfl (by decide) (i := nI k) (rfl) (by omega) (v := nI (sE (T q) k)) (hF k (by omega)) d_Mo_skin_233 ?_
                              have hJ14 : ∀ (H : Heap) (locs : List Loc) (ls : Array Slot), MO D cT ad I J3 (va_up (va_up (va_up a 33 (pt (a 33) (wi (T q)) 0 3375)) 35 F9) 36 G9) g3 s.heap H locs → lv_has ls 8 [(0, .ref (ad 46)), (2, .int what), (3, .int (nI (cn (sq1 (T q)) 20250))), (4, .int (nI (cn (fun j => decide (0 < sE (T q) j)) k))), (5, .int (nI (cn (fun j => decide (sE (T q) j = 4)) k))), (6, .int 0), (7, .int (nI k))] → W p l e (rmOf 6 169) s m args below meth c H locs 0 0 Q (F0 m 242 ls [.int (nI (if 0 < (sE (T q) k) then 1 else 0)), .int (nI (cn (fun j => decide (0 < sE (T q) j)) k))]) := ?_
                              · skip
                                refine nz_le hx hb (sE (T q) k) (by omega) d_Mo_skin_234 (tgt := 241) (by decide) (fun h15 => ?_) (fun h15 => ?_)
                                · skip
                                  refine lv_iconst (v := 0) hx hb d_Mo_skin_241 (by decide) ?_
                                  refine topi_eq (show (0 : Int32) = nI (if 0 < (sE (T q) k) then 1 else 0) by first | rfl | exact (bI_t (by assumption)).symm | exact (bI_f (by assumption)).symm | exact (bI_f (fun z => z (by assumption))).symm | (rw [if_neg h15]; done) | (rw [if_neg h15]; rfl) | (simp only [if_neg h15]; done) | (simp only [if_neg h15]; rfl)) ?_
                                  exact hJ14 _ _ _ (by first | exact hM | (simp only [if_neg h15]; exact hM)) (by first | exact lv_sub hl [0, 1, 2, 3, 4, 5, 6] rfl | (simp only [if_neg h15]; exact lv_sub hl [0, 1, 2, 3, 4, 5, 6] rfl))
                                · skip
                                  refine lv_iconst (v := 1) hx hb d_Mo_skin_237 (by decide) ?_
                                  refine lv_goto (tgt := 242) hx hb d_Mo_skin_238 (by decide) ?_
                                  refine topi_eq (show (1 : Int32) = nI (if 0 < (sE (T q) k) then 1 else 0) by first | rfl | exact (bI_t (by assumption)).symm | exact (bI_f (by assumption)).symm | exact (bI_f (fun z => z (by assumption))).symm | (rw [if_pos h15]; done) | (rw [if_pos h15]; rfl) | (simp only [if_pos h15]; done) | (simp only [if_pos h15]; rfl)) ?_
                                  exact hJ14 _ _ _ (by first | exact hM | (simp only [if_pos h15]; exact hM)) (by first | exact lv_sub hl [0, 1, 2, 3, 4, 5, 6] rfl | (simp only [if_pos h15]; exact lv_sub hl [0, 1, 2, 3, 4, 5, 6] rfl))
                              intro H locs ls hM hl
                              refine lv_iadd hx hb d_Mo_skin_242 ?_
                              refine topi_eq (nI_add (cn (fun j => decide (0 < sE (T q) j)) k) (if 0 < (sE (T q) k) then 1 else 0)) ?_
                              refine lv_istore (lv' := [(4, .int (nI ((cn (fun j => decide (0 < sE (T q) j)) k) + (if 0 < (sE (T q) k) then 1 else 0)))), (0, .ref (ad 46)), (2, .int what), (3, .int (nI (cn (sq1 (T q)) 20250))), (5, .int (nI (cn (fun j => decide (sE (T q) j = 4)) k))), (6, .int 0), (7, .int (nI k))]) hx hb d_Mo_skin_243 hl (by decide) rfl (fun ls hl => ?_)
                              refine lv_iload hx hb d_Mo_skin_245 (lv_at hl 4 rfl) ?_
                              refine lv_aload_n hx hb d_Mo_skin_247 rfl (lv_at hl 1 rfl) ?_
                              refine mo_getr hC hK hM 35 wf_Mo_66 rfl (by decide) (by decide) d_Mo_skin_248 ?_
                              refine lv_iload hx hb d_Mo_skin_251 (lv_at hl 6 rfl) ?_
                              refine mo_ialdN hC hK hM 35 k (by decide) rfl (n := 12288) rfl (by decide) (i := nI k) (rfl) (by omega) (v := nI (sE (T q) k)) (hF k (by omega)) d_Mo_skin_253 ?_
                              refine lv_iconst (v := 4) hx hb d_Mo_skin_254 (by decide) ?_
                              have hJ16 : ∀ (H : Heap) (locs : List Loc) (ls : Array Slot), MO D cT ad I J3 (va_up (va_up (va_up a 33 (pt (a 33) (wi (T q)) 0 3375)) 35 F9) 36 G9) g3 s.heap H locs → lv_has ls 8 [(0, .ref (ad 46)), (2, .int what), (3, .int (nI (cn (sq1 (T q)) 20250))), (4, .int (nI ((cn (fun j => decide (0 < sE (T q) j)) k) + (if 0 < (sE (T q) k) then 1 else 0)))), (5, .int (nI (cn (fun j => decide (sE (T q) j = 4)) k))), (6, .int 0), (7, .int (nI k))] → W p l e (rmOf 6 169) s m args below meth c H locs 0 0 Q (F0 m 263 ls [.int (nI (if (sE (T q) k) = 4 then 1 else 0)), .int (nI (cn (fun j => decide (sE (T q) j = 4)) k))]) := ?_
                              · skip
                                refine nc_ne hx hb (sE (T q) k) 4 (by omega) (by omega) d_Mo_skin_255 (tgt := 262) (by decide) (fun h17 => ?_) (fun h17 => ?_)
                                · skip
                                  refine lv_iconst (v := 0) hx hb d_Mo_skin_262 (by decide) ?_
                                  refine topi_eq (show (0 : Int32) = nI (if (sE (T q) k) = 4 then 1 else 0) by first | rfl | exact (bI_t (by assumption)).symm | exact (bI_f (by assumption)).symm | exact (bI_f (fun z => z (by assumption))).symm | (rw [if_neg h17]; done) | (rw [if_neg h17]; rfl) | (simp only [if_neg h17]; done) | (simp only [if_neg h17]; rfl)) ?_
                                  exact hJ16 _ _ _ (by first | exact hM | (simp only [if_neg h17]; exact hM)) (by first | exact lv_sub hl [1, 2, 3, 0, 4, 5, 6] rfl | (simp only [if_neg h17]; exact lv_sub hl [1, 2, 3, 0, 4, 5, 6] rfl))
                                · skip
                                  refine lv_iconst (v := 1) hx hb d_Mo_skin_258 (by decide) ?_
                                  refine lv_goto (tgt := 263) hx hb d_Mo_skin_259 (by decide) ?_
                                  refine topi_eq (show (1 : Int32) = nI (if (sE (T q) k) = 4 then 1 else 0) by first | rfl | exact (bI_t (by assumption)).symm | exact (bI_f (by assumption)).symm | exact (bI_f (fun z => z (by assumption))).symm | (rw [if_pos h17]; done) | (rw [if_pos h17]; rfl) | (simp only [if_pos h17]; done) | (simp only [if_pos h17]; rfl)) ?_
                                  exact hJ16 _ _ _ (by first | exact hM | (simp only [if_pos h17]; exact hM)) (by first | exact lv_sub hl [1, 2, 3, 0, 4, 5, 6] rfl | (simp only [if_pos h17]; exact lv_sub hl [1, 2, 3, 0, 4, 5, 6] rfl))
                              intro H locs ls hM hl
                              refine lv_iadd hx hb d_Mo_skin_263 ?_
                              refine topi_eq (nI_add (cn (fun j => decide (sE (T q) j = 4)) k) (if (sE (T q) k) = 4 then 1 else 0)) ?_
                              refine lv_istore (lv' := [(5, .int (nI ((cn (fun j => decide (sE (T q) j = 4)) k) + (if (sE (T q) k) = 4 then 1 else 0)))), (0, .ref (ad 46)), (2, .int what), (3, .int (nI (cn (sq1 (T q)) 20250))), (4, .int (nI ((cn (fun j => decide (0 < sE (T q) j)) k) + (if 0 < (sE (T q) k) then 1 else 0)))), (6, .int 0), (7, .int (nI k))]) hx hb d_Mo_skin_264 hl (by decide) rfl (fun ls hl => ?_)
                              refine lv_iinc (v := nI (k + 1)) (lv' := [(7, .int (nI (k + 1))), (5, .int (nI ((cn (fun j => decide (sE (T q) j = 4)) k) + (if (sE (T q) k) = 4 then 1 else 0)))), (0, .ref (ad 46)), (2, .int what), (3, .int (nI (cn (sq1 (T q)) 20250))), (4, .int (nI ((cn (fun j => decide (0 < sE (T q) j)) k) + (if 0 < (sE (T q) k) then 1 else 0)))), (6, .int 0)]) hx hb d_Mo_skin_266 hl (k := 6) rfl (nI_add k 1) (by decide) rfl (fun ls hl => ?_)
                              refine lv_goto (tgt := 217) hx hb d_Mo_skin_269 (by decide) ?_
                              exact ih217 (k + 1) _ _ _ (by omega) (by omega) (hM) (by rw [show cn (fun j => decide (0 < sE (T q) j)) (k + 1) = (cn (fun j => decide (0 < sE (T q) j)) k) + (if 0 < (sE (T q) k) then 1 else 0) from congrArg _ (dec_if _), show cn (fun j => decide (sE (T q) j = 4)) (k + 1) = (cn (fun j => decide (sE (T q) j = 4)) k) + (if (sE (T q) k) = 4 then 1 else 0) from congrArg _ (dec_if _)]; exact lv_sub hl [2, 3, 4, 5, 1, 6, 0] rfl)
                        exact hL217 _ 0 _ _ _ (Nat.lt_succ_self _) (by omega) (hM) (lv_sub hl [4, 5, 6, 3, 2, 1, 0] rfl)
                      · skip
                        refine lv_iconst (v := 0) hx hb d_Mo_skin_84 (by decide) ?_
                        refine lv_istore (lv' := [(5, .int 0), (0, .ref (ad 46)), (2, .int what), (3, .int (nI (cn (sq1 (T q)) (6 * k)))), (4, .int (nI k))]) hx hb d_Mo_skin_85 hl (by decide) rfl (fun ls hl => ?_)
                        have hL87 : ∀ (nn : Nat) (w : Nat) (F9 : Nat → Int32) (G9 : Nat → Int32) (H : Heap) (locs : List Loc) (ls : Array Slot), 6 - w < nn → (w ≤ 6) → (∀ j, j < 12288 → F9 j = nI (cn (sqE (T q) j) (6 * k + w))) → (∀ j, j < 4096 → G9 j = bI (0 < cn (sqC (T q) j) (6 * k + w))) → MO D cT ad I J3 (va_up (va_up (va_up a 33 (pt (a 33) (wi (T q)) 0 3375)) 35 F9) 36 G9) g3 s.heap H locs → lv_has ls 8 [(0, .ref (ad 46)), (2, .int what), (3, .int (nI (cn (sq1 (T q)) (6 * k + w)))), (4, .int (nI k)), (5, .int (nI w))] → W p l e (rmOf 6 169) s m args below meth c H locs 0 0 Q (F0 m 87 ls []) := by
                          intro nn
                          induction nn with
                          | zero =>
                            intro w F9 G9 H locs ls hmeas87 hw hF hG hM hl
                            exact absurd hmeas87 (Nat.not_lt_zero _)
                          | succ nn ih87 =>
                            intro w F9 G9 H locs ls hmeas87 hw hF hG hM hl
                            refine lv_iload hx hb d_Mo_skin_87 (lv_at hl 4 rfl) ?_
                            refine lv_bipush (v := 6) hx hb d_Mo_skin_89 (by decide) ?_
                            refine nc_ge hx hb w 6 (by omega) (by omega) d_Mo_skin_91 (tgt := 199) (by decide) (fun h18 => ?_) (fun h18 => ?_)
                            · skip
                              refine lv_iinc (v := nI (k + 1)) (lv' := [(4, .int (nI (k + 1))), (0, .ref (ad 46)), (2, .int what), (3, .int (nI (cn (sq1 (T q)) (6 * k + w)))), (5, .int (nI w))]) hx hb d_Mo_skin_199 hl (k := 3) rfl (nI_add k 1) (by decide) rfl (fun ls hl => ?_)
                              refine lv_goto (tgt := 76) hx hb d_Mo_skin_202 (by decide) ?_
                              obtain rfl : w = 6 := by omega
                              exact ih76 (k + 1) _ _ _ _ _ (by omega) (by omega) (hF) (hG) (hM) (lv_sub hl [1, 2, 3, 0] rfl)
                            · skip
                              refine lv_aload_n hx hb d_Mo_skin_94 rfl (lv_at hl 0 rfl) ?_
                              refine mo_getr hC hK hM 33 wf_Mo_59 rfl (by decide) (by decide) d_Mo_skin_95 ?_
                              refine lv_iload hx hb d_Mo_skin_98 (lv_at hl 3 rfl) ?_
                              refine mo_zaldN hC hK hM 33 k (by decide) rfl (n := 3375) rfl (by decide) (i := nI k) (rfl) (by omega) (v := bI (vw (T q) k = true)) (ask_at _ (by omega)) d_Mo_skin_100 ?_
                              refine bz_eq (tgt := 199) hx hb d_Mo_skin_101 (by decide) (fun h19 => ?_) (fun h19 => ?_)
                              · skip
                                refine lv_iinc (v := nI (k + 1)) (lv' := [(4, .int (nI (k + 1))), (0, .ref (ad 46)), (2, .int what), (3, .int (nI (cn (sq1 (T q)) (6 * k + w)))), (5, .int (nI w))]) hx hb d_Mo_skin_199 hl (k := 3) rfl (nI_add k 1) (by decide) rfl (fun ls hl => ?_)
                                refine lv_goto (tgt := 76) hx hb d_Mo_skin_202 (by decide) ?_
                                have hno := fun w hw => sq1_no (t := T q) (k := k) (w := w) hw h19
                                exact ih76 (k + 1) _ _ _ _ _ (by omega) (by omega) (fun j hj => by rw [cn_6 (w := w) (fun w hw => sqE_no (hno w hw)) (by omega)]; exact hF j hj) (fun j hj => by rw [cn_6 (w := w) (fun w hw => sqC_no (hno w hw)) (by omega)]; exact hG j hj) (hM) (by rw [cn_6 (w := w) hno (by omega)]; exact lv_sub hl [1, 2, 3, 0] rfl)
                              · skip
                                refine lv_aload_n hx hb d_Mo_skin_104 rfl (lv_at hl 0 rfl) ?_
                                refine lv_iload hx hb d_Mo_skin_105 (lv_at hl 3 rfl) ?_
                                refine lv_iload hx hb d_Mo_skin_107 (lv_at hl 4 rfl) ?_
                                refine mo_callr (np := 2) hC hK hM (c_Mo_hasSide l D cT ad I J3 (va_up (va_up (va_up a 33 (pt (a 33) (wi (T q)) 0 3375)) 35 F9) 36 G9) g3 k w ask_01 (by omega) (by omega)) rfl ⟨wl_Mo_268, wi_Mo_hasSide, ws_Mo_hasSide, wc_Mo_hasSide, wn_Mo⟩ ⟨by decide, by decide, by decide +kernel⟩ ⟨Nat.le_of_ble_eq_true rfl, Nat.le_of_ble_eq_true rfl⟩ hl.1 rfl (rest := []) rfl (Nat.le_of_ble_eq_true rfl) ⟨Nat.zero_le _, Nat.zero_le _⟩ d_Mo_skin_109 (fun rr hrr => ?_)
                                replace hrr : rr = bI (hsd (T q) k w = true) := hrr.trans (bI_c (hsd_c ask_at))
                                subst hrr
                                refine bz_ne (tgt := 193) hx hb d_Mo_skin_112 (by decide) (fun h20 => ?_) (fun h20 => ?_)
                                · skip
                                  refine lv_iinc (v := nI (w + 1)) (lv' := [(5, .int (nI (w + 1))), (0, .ref (ad 46)), (2, .int what), (3, .int (nI (cn (sq1 (T q)) (6 * k + w)))), (4, .int (nI k))]) hx hb d_Mo_skin_193 hl (k := 4) rfl (nI_add w 1) (by decide) rfl (fun ls hl => ?_)
                                  refine lv_goto (tgt := 87) hx hb d_Mo_skin_196 (by decide) ?_
                                  have hno := sq1_no2 (t := T q) (k := k) (w := w) (by omega) h20
                                  exact ih87 (w + 1) _ _ _ _ _ (by omega) (by omega) (fun j hj => (hF j hj).trans (congrArg nI (cn_no (sqE_no hno)).symm)) (fun j hj => (hG j hj).trans (bI_c (by rw [show 6 * k + (w + 1) = 6 * k + w + 1 from rfl, cn_no (sqC_no hno)]))) (hM) (by rw [show 6 * k + (w + 1) = 6 * k + w + 1 from rfl, cn_no hno]; exact lv_sub hl [1, 2, 3, 4, 0] rfl)
                                · skip
                                  refine lv_iinc (v := nI ((cn (sq1 (T q)) (6 * k + w)) + 1)) (lv' := [(3, .int (nI ((cn (sq1 (T q)) (6 * k + w)) + 1))), (0, .ref (ad 46)), (2, .int what), (4, .int (nI k)), (5, .int (nI w))]) hx hb d_Mo_skin_115 hl (k := 2) rfl (nI_add (cn (sq1 (T q)) (6 * k + w)) 1) (by decide) rfl (fun ls hl => ?_)
                                  refine lv_iload hx hb d_Mo_skin_118 (lv_at hl 4 rfl) ?_
                                  refine lv_iconst (v := 1) hx hb d_Mo_skin_120 (by decide) ?_
                                  refine lv_iand hx hb d_Mo_skin_121 ?_
                                  refine topi_eq (and_m w (by omega) 1 rfl) ?_
                                  refine lv_istore (lv' := [(6, .int (nI (w % 2))), (3, .int (nI ((cn (sq1 (T q)) (6 * k + w)) + 1))), (0, .ref (ad 46)), (2, .int what), (4, .int (nI k)), (5, .int (nI w))]) hx hb d_Mo_skin_122 hl (by decide) rfl (fun ls hl => ?_)
                                  refine lv_iload hx hb d_Mo_skin_124 (lv_at hl 5 rfl) ?_
                                  refine lv_iconst (v := 2) hx hb d_Mo_skin_126 (by decide) ?_
                                  refine idivN hx hb w 2 (by omega) (by decide) (by decide) d_Mo_skin_127 ?_
                                  refine lv_istore (lv' := [(7, .int (nI (w / 2))), (6, .int (nI (w % 2))), (3, .int (nI ((cn (sq1 (T q)) (6 * k + w)) + 1))), (0, .ref (ad 46)), (2, .int what), (4, .int (nI k)), (5, .int (nI w))]) hx hb d_Mo_skin_128 hl (by decide) rfl (fun ls hl => ?_)
                                  refine lv_aload_n hx hb d_Mo_skin_130 rfl (lv_at hl 3 rfl) ?_
                                  refine lv_iload hx hb d_Mo_skin_131 (lv_at hl 5 rfl) ?_
                                  refine lv_bipush (v := 15) hx hb d_Mo_skin_133 (by decide) ?_
                                  refine iremN hx hb k 15 (by omega) (by decide) (by decide) d_Mo_skin_135 ?_
                                  refine lv_iload hx hb d_Mo_skin_136 (lv_at hl 0 rfl) ?_
                                  have hJ21 : ∀ (H : Heap) (locs : List Loc) (ls : Array Slot), MO D cT ad I J3 (va_up (va_up (va_up a 33 (pt (a 33) (wi (T q)) 0 3375)) 35 F9) 36 G9) g3 s.heap H locs → lv_has ls 8 [(0, .ref (ad 46)), (2, .int what), (3, .int (nI ((cn (sq1 (T q)) (6 * k + w)) + 1))), (4, .int (nI k)), (5, .int (nI w)), (6, .int (nI (w % 2))), (7, .int (nI (w / 2)))] → W p l e (rmOf 6 169) s m args below meth c H locs 0 0 Q (F0 m 147 ls [.int (nI (if (w / 2) = 0 then w % 2 else 0)), .int (nI (k % 15)), .ref (ad 46)]) := ?_
                                  · skip
                                    refine nz_ne hx hb (w / 2) (by omega) d_Mo_skin_138 (tgt := 146) (by decide) (fun h22 => ?_) (fun h22 => ?_)
                                    · skip
                                      refine lv_iconst (v := 0) hx hb d_Mo_skin_146 (by decide) ?_
                                      refine topi_eq (show (0 : Int32) = nI (if (w / 2) = 0 then w % 2 else 0) by first | rfl | exact (bI_t (by assumption)).symm | exact (bI_f (by assumption)).symm | exact (bI_f (fun z => z (by assumption))).symm | (rw [if_neg h22]; done) | (rw [if_neg h22]; rfl) | (simp only [if_neg h22]; done) | (simp only [if_neg h22]; rfl)) ?_
                                      exact hJ21 _ _ _ (by first | exact hM | (simp only [if_neg h22]; exact hM)) (by first | exact lv_sub hl [3, 4, 2, 5, 6, 1, 0] rfl | (simp only [if_neg h22]; exact lv_sub hl [3, 4, 2, 5, 6, 1, 0] rfl))
                                    · skip
                                      refine lv_iload hx hb d_Mo_skin_141 (lv_at hl 1 rfl) ?_
                                      refine lv_goto (tgt := 147) hx hb d_Mo_skin_143 (by decide) ?_
                                      refine topi_eq (show (nI (w % 2) : Int32) = nI (if (w / 2) = 0 then w % 2 else 0) by first | rfl | exact (bI_t (by assumption)).symm | exact (bI_f (by assumption)).symm | exact (bI_f (fun z => z (by assumption))).symm | (rw [if_pos h22]; done) | (rw [if_pos h22]; rfl) | (simp only [if_pos h22]; done) | (simp only [if_pos h22]; rfl)) ?_
                                      exact hJ21 _ _ _ (by first | exact hM | (simp only [if_pos h22]; exact hM)) (by first | exact lv_sub hl [3, 4, 2, 5, 6, 1, 0] rfl | (simp only [if_pos h22]; exact lv_sub hl [3, 4, 2, 5, 6, 1, 0] rfl))
                                  intro H locs ls hM hl
                                  refine lv_iadd hx hb d_Mo_skin_147 ?_
                                  refine topi_eq (nI_add (k % 15) (if (w / 2) = 0 then w % 2 else 0)) ?_
                                  refine lv_iload hx hb d_Mo_skin_148 (lv_at hl 3 rfl) ?_
                                  refine lv_bipush (v := 15) hx hb d_Mo_skin_150 (by decide) ?_
                                  refine idivN hx hb k 15 (by omega) (by decide) (by decide) d_Mo_skin_152 ?_
                                  refine lv_bipush (v := 15) hx hb d_Mo_skin_153 (by decide) ?_
                                  refine iremN hx hb (k / 15) 15 (by omega) (by decide) (by decide) d_Mo_skin_155 ?_
                                  refine lv_iload hx hb d_Mo_skin_156 (lv_at hl 6 rfl) ?_
                                  refine lv_iconst (v := 1) hx hb d_Mo_skin_158 (by decide) ?_
                                  have hJ23 : ∀ (H : Heap) (locs : List Loc) (ls : Array Slot), MO D cT ad I J3 (va_up (va_up (va_up a 33 (pt (a 33) (wi (T q)) 0 3375)) 35 F9) 36 G9) g3 s.heap H locs → lv_has ls 8 [(0, .ref (ad 46)), (2, .int what), (3, .int (nI ((cn (sq1 (T q)) (6 * k + w)) + 1))), (4, .int (nI k)), (5, .int (nI w)), (6, .int (nI (w % 2))), (7, .int (nI (w / 2)))] → W p l e (rmOf 6 169) s m args below meth c H locs 0 0 Q (F0 m 168 ls [.int (nI (if (w / 2) = 1 then w % 2 else 0)), .int (nI ((k / 15) % 15)), .int (nI ((k % 15) + (if (w / 2) = 0 then w % 2 else 0))), .ref (ad 46)]) := ?_
                                  · skip
                                    refine nc_ne hx hb (w / 2) 1 (by omega) (by omega) d_Mo_skin_159 (tgt := 167) (by decide) (fun h24 => ?_) (fun h24 => ?_)
                                    · skip
                                      refine lv_iconst (v := 0) hx hb d_Mo_skin_167 (by decide) ?_
                                      refine topi_eq (show (0 : Int32) = nI (if (w / 2) = 1 then w % 2 else 0) by first | rfl | exact (bI_t (by assumption)).symm | exact (bI_f (by assumption)).symm | exact (bI_f (fun z => z (by assumption))).symm | (rw [if_neg h24]; done) | (rw [if_neg h24]; rfl) | (simp only [if_neg h24]; done) | (simp only [if_neg h24]; rfl)) ?_
                                      exact hJ23 _ _ _ (by first | exact hM | (simp only [if_neg h24]; exact hM)) (by first | exact lv_sub hl [0, 1, 2, 3, 4, 5, 6] rfl | (simp only [if_neg h24]; exact lv_sub hl [0, 1, 2, 3, 4, 5, 6] rfl))
                                    · skip
                                      refine lv_iload hx hb d_Mo_skin_162 (lv_at hl 5 rfl) ?_
                                      refine lv_goto (tgt := 168) hx hb d_Mo_skin_164 (by decide) ?_
                                      refine topi_eq (show (nI (w % 2) : Int32) = nI (if (w / 2) = 1 then w % 2 else 0) by first | rfl | exact (bI_t (by assumption)).symm | exact (bI_f (by assumption)).symm | exact (bI_f (fun z => z (by assumption))).symm | (rw [if_pos h24]; done) | (rw [if_pos h24]; rfl) | (simp only [if_pos h24]; done) | (simp only [if_pos h24]; rfl)) ?_
                                      exact hJ23 _ _ _ (by first | exact hM | (simp only [if_pos h24]; exact hM)) (by first | exact lv_sub hl [0, 1, 2, 3, 4, 5, 6] rfl | (simp only [if_pos h24]; exact lv_sub hl [0, 1, 2, 3, 4, 5, 6] rfl))
                                  intro H locs ls hM hl
                                  refine lv_iadd hx hb d_Mo_skin_168 ?_
                                  refine topi_eq (nI_add ((k / 15) % 15) (if (w / 2) = 1 then w % 2 else 0)) ?_
                                  refine lv_iload hx hb d_Mo_skin_169 (lv_at hl 3 rfl) ?_
                                  refine lv_sipush (v := 225) hx hb d_Mo_skin_171 (by decide) ?_
                                  refine idivN hx hb k 225 (by omega) (by decide) (by decide) d_Mo_skin_174 ?_
                                  refine lv_iload hx hb d_Mo_skin_175 (lv_at hl 6 rfl) ?_
                                  refine lv_iconst (v := 2) hx hb d_Mo_skin_177 (by decide) ?_
                                  have hJ25 : ∀ (H : Heap) (locs : List Loc) (ls : Array Slot), MO D cT ad I J3 (va_up (va_up (va_up a 33 (pt (a 33) (wi (T q)) 0 3375)) 35 F9) 36 G9) g3 s.heap H locs → lv_has ls 8 [(0, .ref (ad 46)), (2, .int what), (3, .int (nI ((cn (sq1 (T q)) (6 * k + w)) + 1))), (4, .int (nI k)), (5, .int (nI w)), (6, .int (nI (w % 2))), (7, .int (nI (w / 2)))] → W p l e (rmOf 6 169) s m args below meth c H locs 0 0 Q (F0 m 187 ls [.int (nI (if (w / 2) = 2 then w % 2 else 0)), .int (nI (k / 225)), .int (nI (((k / 15) % 15) + (if (w / 2) = 1 then w % 2 else 0))), .int (nI ((k % 15) + (if (w / 2) = 0 then w % 2 else 0))), .ref (ad 46)]) := ?_
                                  · skip
                                    refine nc_ne hx hb (w / 2) 2 (by omega) (by omega) d_Mo_skin_178 (tgt := 186) (by decide) (fun h26 => ?_) (fun h26 => ?_)
                                    · skip
                                      refine lv_iconst (v := 0) hx hb d_Mo_skin_186 (by decide) ?_
                                      refine topi_eq (show (0 : Int32) = nI (if (w / 2) = 2 then w % 2 else 0) by first | rfl | exact (bI_t (by assumption)).symm | exact (bI_f (by assumption)).symm | exact (bI_f (fun z => z (by assumption))).symm | (rw [if_neg h26]; done) | (rw [if_neg h26]; rfl) | (simp only [if_neg h26]; done) | (simp only [if_neg h26]; rfl)) ?_
                                      exact hJ25 _ _ _ (by first | exact hM | (simp only [if_neg h26]; exact hM)) (by first | exact lv_sub hl [0, 1, 2, 3, 4, 5, 6] rfl | (simp only [if_neg h26]; exact lv_sub hl [0, 1, 2, 3, 4, 5, 6] rfl))
                                    · skip
                                      refine lv_iload hx hb d_Mo_skin_181 (lv_at hl 5 rfl) ?_
                                      refine lv_goto (tgt := 187) hx hb d_Mo_skin_183 (by decide) ?_
                                      refine topi_eq (show (nI (w % 2) : Int32) = nI (if (w / 2) = 2 then w % 2 else 0) by first | rfl | exact (bI_t (by assumption)).symm | exact (bI_f (by assumption)).symm | exact (bI_f (fun z => z (by assumption))).symm | (rw [if_pos h26]; done) | (rw [if_pos h26]; rfl) | (simp only [if_pos h26]; done) | (simp only [if_pos h26]; rfl)) ?_
                                      exact hJ25 _ _ _ (by first | exact hM | (simp only [if_pos h26]; exact hM)) (by first | exact lv_sub hl [0, 1, 2, 3, 4, 5, 6] rfl | (simp only [if_pos h26]; exact lv_sub hl [0, 1, 2, 3, 4, 5, 6] rfl))
                                  intro H locs ls hM hl
                                  refine lv_iadd hx hb d_Mo_skin_187 ?_
                                  refine topi_eq (nI_add (k / 225) (if (w / 2) = 2 then w % 2 else 0)) ?_
                                  refine lv_iload hx hb d_Mo_skin_188 (lv_at hl 6 rfl) ?_
                                  refine mo_callv (np := 4) hC hK hM (c_Mo_square l D cT ad I J3 (va_up (va_up (va_up a 33 (pt (a 33) (wi (T q)) 0 3375)) 35 F9) 36 G9) g3 ((k % 15) + (if (w / 2) = 0 then w % 2 else 0)) (((k / 15) % 15) + (if (w / 2) = 1 then w % 2 else 0)) ((k / 225) + (if (w / 2) = 2 then w % 2 else 0)) (w / 2) ⟨by split <;> omega, by split <;> omega, by split <;> omega, by omega⟩ (fun h => ⟨by rw [if_neg (by omega)]; omega, by rw [if_neg (by omega)]; omega⟩) (fun h => ⟨by rw [if_neg (by omega)]; omega, by rw [if_neg (by omega)]; omega⟩) (fun h => ⟨by rw [if_neg (by omega)]; omega, by rw [if_neg (by omega)]; omega⟩)) rfl ⟨wl_Mo_272, wi_Mo_square, ws_Mo_square, wc_Mo_square, wn_Mo⟩ ⟨by decide, by decide, by decide +kernel⟩ ⟨Nat.le_of_ble_eq_true rfl, Nat.le_of_ble_eq_true rfl⟩ hl.1 rfl (rest := []) rfl (Nat.le_of_ble_eq_true rfl) ⟨Nat.zero_le _, Nat.zero_le _⟩ d_Mo_skin_190 (fun I27 J27 a27 g27 H locs hp27 hM => ?_)
                                  obtain ⟨F_p27, G_p27, hu_p27, hF_p27, hG_p27⟩ := hp27
                                  cases hu_p27
                                  rw [up_swap (i := 36) (j := 35) (by decide), bx_uu, bx_uu] at hM
                                  refine lv_iinc (v := nI (w + 1)) (lv' := [(5, .int (nI (w + 1))), (0, .ref (ad 46)), (2, .int what), (3, .int (nI ((cn (sq1 (T q)) (6 * k + w)) + 1))), (4, .int (nI k)), (6, .int (nI (w % 2))), (7, .int (nI (w / 2)))]) hx hb d_Mo_skin_193 hl (k := 4) rfl (nI_add w 1) (by decide) rfl (fun ls hl => ?_)
                                  refine lv_goto (tgt := 87) hx hb d_Mo_skin_196 (by decide) ?_
                                  have hys := sq1_yes (t := T q) (k := k) (w := w) (by omega) h19 h20
                                  exact ih87 (w + 1) _ _ _ _ _ (by omega) (by omega) (sqE_st (by omega) hys hF hF_p27) (sqC_st (by omega) hys hG hG_p27) (hM) (by rw [show 6 * k + (w + 1) = 6 * k + w + 1 from rfl, cn_yes hys]; exact lv_sub hl [1, 2, 3, 4, 0] rfl)
                        exact hL87 _ 0 _ _ _ _ _ (Nat.lt_succ_self _) (by omega) (hF) (hG) (hM) (lv_sub hl [1, 2, 3, 4, 0] rfl)
                  exact hL76 _ 0 _ _ _ _ _ (Nat.lt_succ_self _) (by omega) (fun j hj => by show zr _ 0 12288 j = _; unfold zr; rw [if_pos (by omega)]; rfl) (fun j hj => by show zr _ 0 4096 j = _; unfold zr; rw [if_pos (by omega)]; rfl) (hM) (lv_sub hl [2, 3, 1, 0] rfl)
                · skip
                  refine lv_aload_n hx hb d_Mo_skin_58 rfl (lv_at hl 0 rfl) ?_
                  refine mo_getr hC hK hM 36 wf_Mo_69 rfl (by decide) (by decide) d_Mo_skin_59 ?_
                  refine lv_iload_n hx hb d_Mo_skin_62 rfl (lv_at hl 2 rfl) ?_
                  refine lv_iconst (v := 0) hx hb d_Mo_skin_63 (by decide) ?_
                  refine mo_zastN hC hK hM 36 k (by decide) rfl (n := 4096) rfl (by decide) (i := nI k) (x := 0) (rfl) (by omega) (by first | exact Or.inl rfl | exact Or.inr rfl | exact bI_01) d_Mo_skin_64 (fun H locs hM => ?_)
                  rw [bx_uu] at hM
                  replace hM : MO D cT ad I J3 (va_up (va_up (va_up a 33 (pt (a 33) (wi (T q)) 0 3375)) 35 (zr (a 35) 0 12288)) 36 (upd (zr (a 36) 0 k) k 0)) g3 s.heap H locs := hM
                  refine lv_iinc (v := nI (k + 1)) (lv' := [(3, .int (nI (k + 1))), (0, .ref (ad 46)), (2, .int what)]) hx hb d_Mo_skin_65 hl (k := 2) rfl (nI_add k 1) (by decide) rfl (fun ls hl => ?_)
                  refine lv_goto (tgt := 51) hx hb d_Mo_skin_68 (by decide) ?_
                  exact ih51 (k + 1) _ _ _ (by omega) (by omega) (by rw [← zr_succ (a 36) 0 k, Nat.zero_add]; exact hM) (lv_sub hl [1, 2, 0] rfl)
            exact hL51 _ 0 _ _ _ (Nat.lt_succ_self _) (by omega) (by rw [zr_0, up_same2 (by rfl)]; exact hM) (lv_sub hl [1, 2, 0] rfl)
          · skip
            refine lv_aload_n hx hb d_Mo_skin_36 rfl (lv_at hl 0 rfl) ?_
            refine mo_getr hC hK hM 35 wf_Mo_66 rfl (by decide) (by decide) d_Mo_skin_37 ?_
            refine lv_iload_n hx hb d_Mo_skin_40 rfl (lv_at hl 2 rfl) ?_
            refine lv_iconst (v := 0) hx hb d_Mo_skin_41 (by decide) ?_
            refine mo_iastN hC hK hM 35 k (by decide) rfl (n := 12288) rfl (by decide) (i := nI k) (x := 0) (rfl) (by omega) d_Mo_skin_42 (fun H locs hM => ?_)
            rw [bx_uu] at hM
            replace hM : MO D cT ad I J3 (va_up (va_up a 33 (pt (a 33) (wi (T q)) 0 3375)) 35 (upd (zr (a 35) 0 k) k 0)) g3 s.heap H locs := hM
            refine lv_iinc (v := nI (k + 1)) (lv' := [(3, .int (nI (k + 1))), (0, .ref (ad 46)), (2, .int what)]) hx hb d_Mo_skin_43 hl (k := 2) rfl (nI_add k 1) (by decide) rfl (fun ls hl => ?_)
            refine lv_goto (tgt := 29) hx hb d_Mo_skin_46 (by decide) ?_
            exact ih29 (k + 1) _ _ _ (by omega) (by omega) (by rw [← zr_succ (a 35) 0 k, Nat.zero_add]; exact hM) (lv_sub hl [1, 2, 0] rfl)
      exact hL29 _ 0 _ _ _ (Nat.lt_succ_self _) (by omega) (by rw [zr_0, up_same2 (by rfl)]; exact hM) (lv_sub hl [1, 3, 0] rfl)
    · skip
      refine lv_iconst (v := (-1)) hx hb d_Mo_skin_20 (by decide) ?_
      exact hret _ _ _ _ _ _ _ _ _ d_Mo_skin_21 hM (⟨SP_a (fun _ _ => rfl), by rw [if_neg (by omega)]⟩)
