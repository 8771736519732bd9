/-! the reference: parts, part, slice -/
theorem ex_lst {ways : Nat} {V : Nat → Bool} : ∀ (n k : Nat), k < n → k < 3375 → ∃ i, i ≤ k ∧ lst ways V i = true ∧ hng ways V i k
  | 0, k, h, _ => by omega
  | n + 1, k, h, hk => by
    cases q : lst ways V k
    · have z := cB_f.mp q
      obtain ⟨i, hz⟩ := Classical.not_forall.mp z
      obtain ⟨hi, hz⟩ := Classical.not_imp.mp hz
      have hz := Classical.not_not.mp hz
      obtain ⟨i', h1, h2, h3⟩ := ex_lst (ways := ways) (V := V) n i (by omega) (by omega)
      exact ⟨i', by omega, h2, hng_tr (by omega) h3 hz⟩
    · exact ⟨k, Nat.le_refl k, q, clo_0⟩
theorem lst_un {ways : Nat} {V : Nat → Bool} {i j k : Nat} (hsym : ∀ x w, x < 3375 → w < ways → sdv x w < 3375 → ∃ w', w' < ways ∧ sdv (sdv x w) w' = x) (hi : i < 3375) (hj : j < 3375) (h1 : lst ways V i = true) (h2 : lst ways V j = true) (h3 : hng ways V i k) (h4 : hng ways V j k) : i = j := by
  have a1 : hng ways V i j := hng_tr hi h3 (hng_sy hsym hj h4)
  have a2 : hng ways V j i := hng_tr hj h4 (hng_sy hsym hi h3)
  rcases Nat.lt_trichotomy i j with q | q | q
  · exact absurd a1 (cB_t.mp h2 i q)
  · exact q
  · exact absurd a2 (cB_t.mp h1 j q)
/-- the number of the piece that a place is of -/
def pnum (V : Nat → Bool) (k n : Nat) : Prop := ∃ i, i < 3375 ∧ lst 6 V i = true ∧ hng 6 V i k ∧ n = cn (plv V) i
theorem pnum_un {V : Nat → Bool} {k n m : Nat} (h1 : pnum V k n) (h2 : pnum V k m) : n = m := by
  obtain ⟨i, a1, a2, a3, a4⟩ := h1
  obtain ⟨j, b1, b2, b3, b4⟩ := h2
  rw [a4, b4, lst_un sd6 a1 b1 a2 b2 a3 b3]
theorem part_at {V : Nat → Bool} {k : Nat} {PF : Nat → Int32} (hk : k < 3375) (hv : V k = true) (hn : NMI V 3375 PF) : ∃ n, pnum V k n ∧ PF k = nI n := by
  obtain ⟨i, h1, h2, h3⟩ := ex_lst (ways := 6) (V := V) (k + 1) k (by omega) hk
  exact ⟨_, ⟨i, by omega, h2, h3, rfl⟩, hn i k (by omega) (by rw [← hv]; exact (hng_in (by omega) h3).2.symm) h2 h3⟩
noncomputable def ptsN (V : Nat → Bool) (w : Int) : Nat := if w = 0 then cn (plv V) 3375 else if w = 1 then cn (hlv V) 3375 else if w = 2 then gmx (plv V) (szp 6 V) 3375 else smx (hlv V) (szp 6 V) 3375
/-- a slice's outline, by place and side -/
def ol1 (t : TX) (zz n : Nat) : Bool := vw t (225 * zz + n / 4) && !hsd t (225 * zz + n / 4) (n % 4)
noncomputable def pc1 (t : TX) (zz j : Nat) : Bool := vw t (225 * zz + j) && lst 4 (vw t) (225 * zz + j)
theorem sl4 {x w zz : Nat} (hx : x / 225 = zz) (hw : w < 4) (h : sdv x w < 3375) : sdv x w / 225 = zz := by
  unfold sdv at *
  (repeat' split) <;> (repeat' split at h) <;> omega
theorem hng4 {V : Nat → Bool} {k j : Nat} (h : hng 4 V k j) : j / 225 = k / 225 := h (fun j => j / 225 = k / 225) rfl (fun x w hx hw a1 _ => sl4 hx hw a1)
theorem sd4 : ∀ x w, x < 3375 → w < 4 → sdv x w < 3375 → ∃ w', w' < 4 ∧ sdv (sdv x w) w' = x := fun _ _ h1 h2 h3 => sd_sym4 h1 h2 h3
def MKS (V : Nat → Bool) (zz i : Nat) (PF : Nat → Int32) : Prop := ∀ j, j < 225 → V (225 * zz + j) = true → (¬ PF (225 * zz + j) = -4 ↔ ∃ i', i' < i ∧ hng 4 V (225 * zz + i') (225 * zz + j))
theorem MKS_no {V : Nat → Bool} {zz i : Nat} {PF : Nat → Int32} (hz : zz ≤ 14) (hi : i < 225) (h : MKS V zz i PF) (hv : V (225 * zz + i) = true) (hn : ¬ PF (225 * zz + i) = -4) : MKS V zz (i + 1) PF ∧ lst 4 V (225 * zz + i) = false := by
  obtain ⟨i', hi', hik⟩ := (h i hi hv).mp hn
  refine ⟨fun j hj hvj => ?_, cB_f.mpr (fun z => z (225 * zz + i') (by omega) hik)⟩
  rw [h j hj hvj]
  constructor
  · rintro ⟨i, h1, h2⟩; exact ⟨i, by omega, h2⟩
  · rintro ⟨i2, h1, h2⟩
    by_cases e : i2 = i
    · subst e; exact ⟨i', hi', hng_tr (by omega) hik h2⟩
    · exact ⟨i2, by omega, h2⟩
theorem MKS_nv {V : Nat → Bool} {zz i : Nat} {PF : Nat → Int32} (hz : zz ≤ 14) (hi : i < 225) (h : MKS V zz i PF) (hv : ¬ V (225 * zz + i) = true) : MKS V zz (i + 1) PF := fun j hj hvj => by
  rw [h j hj hvj]
  constructor
  · rintro ⟨i, h1, h2⟩; exact ⟨i, by omega, h2⟩
  · rintro ⟨i2, h1, h2⟩
    by_cases e : i2 = i
    · subst e
      exact absurd ((hng_in (by omega) h2).2.symm.trans hvj) hv
    · exact ⟨i2, by omega, h2⟩
theorem MKS_lst {V : Nat → Bool} {zz i : Nat} {PF : Nat → Int32} (hz : zz ≤ 14) (hi : i < 225) (h : MKS V zz i PF) (hv : V (225 * zz + i) = true) (hn : PF (225 * zz + i) = -4) : lst 4 V (225 * zz + i) = true := cB_t.mpr (fun x hx hxk => by
  have e := hng4 hxk
  have e2 : x = 225 * zz + (x - 225 * zz) := by omega
  rw [e2] at hxk
  exact ((h i hi hv).mpr ⟨x - 225 * zz, by omega, hxk⟩) hn)
theorem MKS_cl {V : Nat → Bool} {zz i : Nat} {PF : Nat → Int32} (hz : zz ≤ 14) (hi : i < 225) (h : MKS V zz i PF) (hv : V (225 * zz + i) = true) : ∀ x w, (x < 3375 ∧ x / 225 = zz) → V x = V (225 * zz + i) → PF x = -4 → w < 4 → sdv x w < 3375 → V (sdv x w) = V (225 * zz + i) → PF (sdv x w) = -4 := by
  intro x w hx h1 h2 hw h3 h4
  refine Classical.byContradiction fun z => ?_
  have e := sl4 hx.2 hw h3
  have e1 : sdv x w = 225 * zz + (sdv x w - 225 * zz) := by omega
  have e2 : x = 225 * zz + (x - 225 * zz) := by omega
  rw [e1] at z
  obtain ⟨i', hi', hij⟩ := (h (sdv x w - 225 * zz) (by omega) (by rw [← e1, h4, hv])).mp z
  rw [← e1] at hij
  have h5 : hng 4 V (sdv x w) x := by
    obtain ⟨w', hw', e⟩ := sd4 x w hx.1 hw h3
    have s := clo_s (ways := 4) (ok := fun y => V y = V (sdv x w)) clo_0 hw' (by rw [e]; exact hx.1) (by rw [e, h1, h4])
    rw [e] at s
    exact s
  have h6 := hng_tr (by omega) hij h5
  rw [e2] at h6 h2
  exact (h (x - 225 * zz) (by omega) (by rw [← e2, h1, hv])).mpr ⟨i', hi', h6⟩ h2
theorem MKS_yes {V : Nat → Bool} {zz i : Nat} {num : Int32} {P0 PF : Nat → Int32} (h : MKS V zz i P0) (hnum : ¬ num = -4) (hp : (∀ j, hng 4 V (225 * zz + i) j → PF j = num) ∧ (∀ j, ¬ hng 4 V (225 * zz + i) j → PF j = P0 j)) : MKS V zz (i + 1) PF := by
  intro j hj hvj
  by_cases q : hng 4 V (225 * zz + i) (225 * zz + j)
  · rw [hp.1 _ q]
    exact ⟨fun _ => ⟨i, by omega, q⟩, fun _ => hnum⟩
  · rw [hp.2 _ q, h j hj hvj]
    constructor
    · rintro ⟨i, h1, h2⟩; exact ⟨i, by omega, h2⟩
    · rintro ⟨i2, h1, h2⟩
      by_cases e : i2 = i
      · subst e; exact absurd h2 q
      · exact ⟨i2, by omega, h2⟩
theorem dm4 {k w : Nat} (h : w < 4) : (4 * k + w) / 4 = k ∧ (4 * k + w) % 4 = w := by omega
theorem ol_nv {t : TX} {zz i : Nat} (hv : ¬ vw t (225 * zz + i) = true) : cn (ol1 t zz) (4 * (i + 1)) = cn (ol1 t zz) (4 * i) := by
  have e : ∀ w, w < 4 → ol1 t zz (4 * i + w) = false := fun w hw => by unfold ol1; rw [(dm4 hw).1, Bool.eq_false_iff.mpr hv]; rfl
  rw [show 4 * (i + 1) = 4 * i + 0 + 1 + 1 + 1 + 1 by omega, cn_no (e 3 (by omega)), cn_no (e 2 (by omega)), cn_no (e 1 (by omega)), cn_no (e 0 (by omega))]
  rfl
theorem ol_s {t : TX} {zz i w : Nat} (hw : w < 4) (hv : vw t (225 * zz + i) = true) : cn (ol1 t zz) (4 * i + (w + 1)) = cn (ol1 t zz) (4 * i + w) + (if hsd t (225 * zz + i) w = true then 0 else 1) := by
  show _ + (if ol1 t zz (4 * i + w) = true then 1 else 0) = _
  unfold ol1
  rw [(dm4 hw).1, (dm4 hw).2, hv]
  cases hsd t (225 * zz + i) w <;> rfl
theorem pc1_s {t : TX} {zz i : Nat} (b : Bool) (h : vw t (225 * zz + i) = true → lst 4 (vw t) (225 * zz + i) = b) : cn (pc1 t zz) (i + 1) = cn (pc1 t zz) i + (if vw t (225 * zz + i) = true then (if b = true then 1 else 0) else 0) := by
  show _ + (if pc1 t zz i = true then 1 else 0) = _
  unfold pc1
  cases hv : vw t (225 * zz + i)
  · rfl
  · rw [h hv]; cases b <;> rfl
set_option maxHeartbeats 400000 in
set_option maxRecDepth 100000 in
theorem c_Mo_parts (l : Launch) (D : va_G) (cT : Nat → ClassId) (ad : Nat → Nat) (I : Nat → Int32) (J : Nat → Int64) (a : Nat → Nat → Int32) (g : Nat → Nat → Int64) (b : Int32) (what : Int32) (nbo : Nat) (T : Nat → TX) (hnb : I 0 = nI nbo) (h8 : nbo ≤ 8) (hT : ∀ q, q < nbo → BDT a q (T q)) : MMi l D cT ad y_Mo_parts b_Mo_parts 3 (some .int) 7 194 [.int b, .int what] I J a g (fun r u => SP I a u ∧ r = if (0 ≤ b.toInt ∧ b.toInt < (nbo : Int)) ∧ 0 ≤ what.toInt ∧ what.toInt ≤ 3 then nI (ptsN (vw (T b.toInt.toNat)) what.toInt) else -1) := by
  refine mo_enti (by decide) rfl (Nat.le_of_ble_eq_true rfl) ?_
  intro p e s m args below meth c Q hC hK hM hret ls hl
  have hx := hC.1
  have hb := hC.2.1
  replace hl : lv_has ls 3 [(0, .ref (ad 46)), (1, .int b), (2, .int what)] := hl
  refine lv_aload_n hx hb d_Mo_parts_0 rfl (lv_at hl 0 rfl) ?_
  refine lv_iload_n hx hb d_Mo_parts_1 rfl (lv_at hl 1 rfl) ?_
  refine mo_callr (np := 1) hC hK hM (c_Mo_is l D cT ad I J a g b nbo hnb h8) rfl ⟨wl_Mo_204, wi_Mo_is, ws_Mo_is, wc_Mo_is, wn_Mo⟩ ⟨by decide, by decide, by decide +kernel⟩ ⟨Nat.le_of_ble_eq_true rfl, Nat.le_of_ble_eq_true rfl⟩ hl.1 rfl (rest := []) rfl (Nat.le_of_ble_eq_true rfl) ⟨Nat.zero_le _, Nat.zero_le _⟩ d_Mo_parts_2 (fun rr hrr => ?_)
  subst hrr
  refine bz_eq (tgt := 20) hx hb d_Mo_parts_5 (by decide) (fun h1 => ?_) (fun h1 => ?_)
  · skip
    refine lv_iconst (v := (-1)) hx hb d_Mo_parts_20 (by decide) ?_
    exact hret _ _ _ _ _ _ _ _ _ d_Mo_parts_21 hM (⟨SP_a (fun _ _ => rfl), by rw [if_neg (by omega)]⟩)
  · skip
    refine lv_iload_n hx hb d_Mo_parts_8 rfl (lv_at hl 2 rfl) ?_
    refine lv_i2l (v := iL what.toInt) hx hb d_Mo_parts_9 (x_l _) ?_
    refine lv_lconst (v := 0) hx hb d_Mo_parts_10 (by decide) ?_
    refine lv_ldc2 (v := 3) hx hb hC.2.2.2.1 (hC.2.2.2.2 _ wx_Mo_266) d_Mo_parts_11 ?_
    refine st_calli (np := 3) hC (c_Mo_in l (iL (what.toInt)) 0 3 what.toInt 0 3 (iL_tx what) rfl rfl) ⟨wl_Mo_91, wt_Mo_in, wc_Mo_in, wn_Mo⟩ ⟨by decide, by decide, by decide +kernel⟩ ⟨Nat.le_of_ble_eq_true rfl, Nat.le_of_ble_eq_true rfl⟩ hl.1 rfl (rest := []) rfl (Nat.le_of_ble_eq_true rfl) ⟨Nat.zero_le _, Nat.zero_le _⟩ d_Mo_parts_14 (fun rr hrr => ?_)
    subst hrr
    refine bz_ne (tgt := 22) hx hb d_Mo_parts_17 (by decide) (fun h2 => ?_) (fun h2 => ?_)
    · skip
      obtain ⟨q, hq, rfl, hqt⟩ := ex_nI (n := 7) (x := b) (by omega) (by omega)
      have hqn : q < nbo := by omega
      refine lv_aload_n hx hb d_Mo_parts_22 rfl (lv_at hl 0 rfl) ?_
      refine lv_iload_n hx hb d_Mo_parts_23 rfl (lv_at hl 1 rfl) ?_
      refine mo_callv (np := 1) hC hK hM (c_Mo_layParts l D cT ad I J a g q (T q) (by omega) (hT q (by omega))) rfl ⟨wl_Mo_298, wi_Mo_layParts, ws_Mo_layParts, wc_Mo_layParts, wn_Mo⟩ ⟨by decide, by decide, by decide +kernel⟩ ⟨Nat.le_of_ble_eq_true rfl, Nat.le_of_ble_eq_true rfl⟩ hl.1 rfl (rest := []) rfl (Nat.le_of_ble_eq_true rfl) ⟨Nat.zero_le _, Nat.zero_le _⟩ d_Mo_parts_24 (fun I3 J3 a3 g3 H locs hp3 hM => ?_)
      obtain ⟨hsp_p3, h33_p3, h39_p3, h40_p3, h41_p3, h42_p3, hmk_p3, hnm_p3⟩ := hp3
      replace h39_p3 : I3 39 = nI (cn (plv (vw (T q))) 3375) := h39_p3
      replace h40_p3 : I3 40 = nI (gmx (plv (vw (T q))) (szp 6 (vw (T q))) 3375) := h40_p3
      replace h41_p3 : I3 41 = nI (cn (hlv (vw (T q))) 3375) := h41_p3
      replace h42_p3 : I3 42 = nI (smx (hlv (vw (T q))) (szp 6 (vw (T q))) 3375) := h42_p3
      replace h33_p3 : a3 33 = pt (a 33) (wi (T q)) 0 3375 := h33_p3
      replace hnm_p3 : NMI (vw (T q)) 3375 (a3 37) := hnm_p3
      refine lv_iload_n hx hb d_Mo_parts_27 rfl (lv_at hl 2 rfl) ?_
      refine yz_ne hx hb what.toInt (rfl) d_Mo_parts_28 (tgt := 38) (by decide) (fun h4 => ?_) (fun h4 => ?_)
      · skip
        refine lv_iload_n hx hb d_Mo_parts_38 rfl (lv_at hl 2 rfl) ?_
        refine lv_iconst (v := 1) hx hb d_Mo_parts_39 (by decide) ?_
        refine yc_ne hx hb what.toInt 1 (rfl) (rfl) d_Mo_parts_40 (tgt := 50) (by decide) (fun h5 => ?_) (fun h5 => ?_)
        · skip
          refine lv_iload_n hx hb d_Mo_parts_50 rfl (lv_at hl 2 rfl) ?_
          refine lv_iconst (v := 2) hx hb d_Mo_parts_51 (by decide) ?_
          refine yc_ne hx hb what.toInt 2 (rfl) (rfl) d_Mo_parts_52 (tgt := 62) (by decide) (fun h6 => ?_) (fun h6 => ?_)
          · skip
            refine lv_aload_n hx hb d_Mo_parts_62 rfl (lv_at hl 0 rfl) ?_
            refine mo_geti hC hK hM 42 wf_Mo_289 rfl rfl (by decide) (v := nI (smx (hlv (vw (T q))) (szp 6 (vw (T q))) 3375)) (h42_p3) d_Mo_parts_63 ?_
            refine hret _ _ _ _ _ _ _ _ _ d_Mo_parts_66 hM ?_
            refine ⟨by assumption, ?_⟩
            rw [if_pos (by omega), hqt]
            simp only [Int.toNat_natCast, ptsN, if_neg h4, if_neg h5, if_neg h6]
          · skip
            refine lv_aload_n hx hb d_Mo_parts_55 rfl (lv_at hl 0 rfl) ?_
            refine mo_geti hC hK hM 40 wf_Mo_283 rfl rfl (by decide) (v := nI (gmx (plv (vw (T q))) (szp 6 (vw (T q))) 3375)) (h40_p3) d_Mo_parts_56 ?_
            refine lv_goto (tgt := 66) hx hb d_Mo_parts_59 (by decide) ?_
            refine hret _ _ _ _ _ _ _ _ _ d_Mo_parts_66 hM ?_
            refine ⟨by assumption, ?_⟩
            rw [if_pos (by omega), hqt]
            simp only [Int.toNat_natCast, ptsN, if_neg h4, if_neg h5, if_pos h6]
        · skip
          refine lv_aload_n hx hb d_Mo_parts_43 rfl (lv_at hl 0 rfl) ?_
          refine mo_geti hC hK hM 41 wf_Mo_286 rfl rfl (by decide) (v := nI (cn (hlv (vw (T q))) 3375)) (h41_p3) d_Mo_parts_44 ?_
          refine lv_goto (tgt := 66) hx hb d_Mo_parts_47 (by decide) ?_
          refine hret _ _ _ _ _ _ _ _ _ d_Mo_parts_66 hM ?_
          refine ⟨by assumption, ?_⟩
          rw [if_pos (by omega), hqt]
          simp only [Int.toNat_natCast, ptsN, if_neg h4, if_pos h5]
      · skip
        refine lv_aload_n hx hb d_Mo_parts_31 rfl (lv_at hl 0 rfl) ?_
        refine mo_geti hC hK hM 39 wf_Mo_280 rfl rfl (by decide) (v := nI (cn (plv (vw (T q))) 3375)) (h39_p3) d_Mo_parts_32 ?_
        refine lv_goto (tgt := 66) hx hb d_Mo_parts_35 (by decide) ?_
        refine hret _ _ _ _ _ _ _ _ _ d_Mo_parts_66 hM ?_
        refine ⟨by assumption, ?_⟩
        rw [if_pos (by omega), hqt]
        simp only [Int.toNat_natCast, ptsN, if_pos h4]
    · skip
      refine lv_iconst (v := (-1)) hx hb d_Mo_parts_20 (by decide) ?_
      exact hret _ _ _ _ _ _ _ _ _ d_Mo_parts_21 hM (⟨SP_a (fun _ _ => rfl), by rw [if_neg (by omega)]⟩)
set_option maxHeartbeats 400000 in
set_option maxRecDepth 100000 in
theorem c_Mo_part (l : Launch) (D : va_G) (cT : Nat → ClassId) (ad : Nat → Nat) (I : Nat → Int32) (J : Nat → Int64) (a : Nat → Nat → Int32) (g : Nat → Nat → Int64) (b : Int32) (x : Int32) (y : Int32) (z : Int32) (nbo : Nat) (T : Nat → TX) (hnb : I 0 = nI nbo) (h8 : nbo ≤ 8) (hT : ∀ q, q < nbo → BDT a q (T q)) : MMi l D cT ad y_Mo_part b_Mo_part 6 (some .int) 7 194 [.int b, .int x, .int y, .int z] I J a g (fun r u => SP I a u ∧ if (0 ≤ b.toInt ∧ b.toInt < (nbo : Int)) ∧ (-7 ≤ x.toInt ∧ x.toInt ≤ 7 ∧ -7 ≤ y.toInt ∧ y.toInt ≤ 7 ∧ -7 ≤ z.toInt ∧ z.toInt ≤ 7) then (if vw (T b.toInt.toNat) (ixp x.toInt y.toInt z.toInt) = true then ∃ n, pnum (vw (T b.toInt.toNat)) (ixp x.toInt y.toInt z.toInt) n ∧ r = nI n else r = -4) else r = -1) := by
  refine mo_enti (by decide) rfl (Nat.le_of_ble_eq_true rfl) ?_
  intro p e s m args below meth c Q hC hK hM hret ls hl
  have hx := hC.1
  have hb := hC.2.1
  replace hl : lv_has ls 6 [(0, .ref (ad 46)), (1, .int b), (2, .int x), (3, .int y), (4, .int z)] := hl
  refine lv_aload_n hx hb d_Mo_part_0 rfl (lv_at hl 0 rfl) ?_
  refine lv_iload_n hx hb d_Mo_part_1 rfl (lv_at hl 1 rfl) ?_
  refine mo_callr (np := 1) hC hK hM (c_Mo_is l D cT ad I J a g b nbo hnb h8) rfl ⟨wl_Mo_204, wi_Mo_is, ws_Mo_is, wc_Mo_is, wn_Mo⟩ ⟨by decide, by decide, by decide +kernel⟩ ⟨Nat.le_of_ble_eq_true rfl, Nat.le_of_ble_eq_true rfl⟩ hl.1 rfl (rest := []) rfl (Nat.le_of_ble_eq_true rfl) ⟨Nat.zero_le _, Nat.zero_le _⟩ d_Mo_part_2 (fun rr hrr => ?_)
  subst hrr
  refine bz_eq (tgt := 18) hx hb d_Mo_part_5 (by decide) (fun h1 => ?_) (fun h1 => ?_)
  · skip
    refine lv_iconst (v := (-1)) hx hb d_Mo_part_18 (by decide) ?_
    exact hret _ _ _ _ _ _ _ _ _ d_Mo_part_19 hM (⟨SP_a (fun _ _ => rfl), by rw [if_neg (by omega)]⟩)
  · skip
    refine lv_iload_n hx hb d_Mo_part_8 rfl (lv_at hl 2 rfl) ?_
    refine lv_iload_n hx hb d_Mo_part_9 rfl (lv_at hl 3 rfl) ?_
    refine lv_iload hx hb d_Mo_part_10 (lv_at hl 4 rfl) ?_
    refine st_calli (np := 3) hC (c_Mo_isPoint l x y z x.toInt y.toInt z.toInt rfl rfl rfl) ⟨wl_Mo_221, wt_Mo_isPoint, wc_Mo_isPoint, wn_Mo⟩ ⟨by decide, by decide, by decide +kernel⟩ ⟨Nat.le_of_ble_eq_true rfl, Nat.le_of_ble_eq_true rfl⟩ hl.1 rfl (rest := []) rfl (Nat.le_of_ble_eq_true rfl) ⟨Nat.zero_le _, Nat.zero_le _⟩ d_Mo_part_12 (fun rr hrr => ?_)
    subst hrr
    refine bz_ne (tgt := 20) hx hb d_Mo_part_15 (by decide) (fun h2 => ?_) (fun h2 => ?_)
    · skip
      obtain ⟨q, hq, rfl, hqt⟩ := ex_nI (n := 7) (x := b) (by omega) (by omega)
      have hqn : q < nbo := by omega
      rw [iI_of x, iI_of y, iI_of z] at hl
      refine lv_aload_n hx hb d_Mo_part_20 rfl (lv_at hl 0 rfl) ?_
      refine lv_iload_n hx hb d_Mo_part_21 rfl (lv_at hl 1 rfl) ?_
      refine mo_callv (np := 1) hC hK hM (c_Mo_layParts l D cT ad I J a g q (T q) (by omega) (hT q (by omega))) rfl ⟨wl_Mo_298, wi_Mo_layParts, ws_Mo_layParts, wc_Mo_layParts, wn_Mo⟩ ⟨by decide, by decide, by decide +kernel⟩ ⟨Nat.le_of_ble_eq_true rfl, Nat.le_of_ble_eq_true rfl⟩ hl.1 rfl (rest := []) rfl (Nat.le_of_ble_eq_true rfl) ⟨Nat.zero_le _, Nat.zero_le _⟩ d_Mo_part_22 (fun I3 J3 a3 g3 H locs hp3 hM => ?_)
      obtain ⟨hsp_p3, h33_p3, h39_p3, h40_p3, h41_p3, h42_p3, hmk_p3, hnm_p3⟩ := hp3
      replace h39_p3 : I3 39 = nI (cn (plv (vw (T q))) 3375) := h39_p3
      replace h40_p3 : I3 40 = nI (gmx (plv (vw (T q))) (szp 6 (vw (T q))) 3375) := h40_p3
      replace h41_p3 : I3 41 = nI (cn (hlv (vw (T q))) 3375) := h41_p3
      replace h42_p3 : I3 42 = nI (smx (hlv (vw (T q))) (szp 6 (vw (T q))) 3375) := h42_p3
      replace h33_p3 : a3 33 = pt (a 33) (wi (T q)) 0 3375 := h33_p3
      replace hnm_p3 : NMI (vw (T q)) 3375 (a3 37) := hnm_p3
      refine lv_iload_n hx hb d_Mo_part_25 rfl (lv_at hl 2 rfl) ?_
      refine lv_iload_n hx hb d_Mo_part_26 rfl (lv_at hl 3 rfl) ?_
      refine lv_iload hx hb d_Mo_part_27 (lv_at hl 4 rfl) ?_
      refine st_calli (np := 3) hC (c_Mo_indexOf l x.toInt y.toInt z.toInt) ⟨wl_Mo_256, wt_Mo_indexOf, wc_Mo_indexOf, wn_Mo⟩ ⟨by decide, by decide, by decide +kernel⟩ ⟨Nat.le_of_ble_eq_true rfl, Nat.le_of_ble_eq_true rfl⟩ hl.1 rfl (rest := []) rfl (Nat.le_of_ble_eq_true rfl) ⟨Nat.zero_le _, Nat.zero_le _⟩ d_Mo_part_29 (fun rr hrr => ?_)
      replace hrr : rr = nI (ixp x.toInt y.toInt z.toInt) := hrr.trans ((ixp_eq (by omega)).1)
      subst hrr
      refine lv_istore (lv' := [(5, .int (nI (ixp x.toInt y.toInt z.toInt))), (0, .ref (ad 46)), (1, .int (nI q)), (2, .int (iI x.toInt)), (3, .int (iI y.toInt)), (4, .int (iI z.toInt))]) hx hb d_Mo_part_32 hl (by decide) rfl (fun ls hl => ?_)
      refine lv_aload_n hx hb d_Mo_part_34 rfl (lv_at hl 1 rfl) ?_
      refine mo_getr hC hK hM 33 wf_Mo_59 rfl (by decide) (by decide) d_Mo_part_35 ?_
      refine lv_iload hx hb d_Mo_part_38 (lv_at hl 0 rfl) ?_
      refine mo_zaldN hC hK hM 33 (ixp x.toInt y.toInt z.toInt) (by decide) rfl (n := 3375) rfl (by decide) (i := nI (ixp x.toInt y.toInt z.toInt)) (rfl) ((ixp_eq (by omega)).2) (v := bI (vw (T q) (ixp x.toInt y.toInt z.toInt) = true)) ((congrFun h33_p3 _).trans (ask_at _ (by have := (ixp_eq (x := x.toInt) (y := y.toInt) (z := z.toInt) (by omega)).2; omega))) d_Mo_part_40 ?_
      refine bz_eq (tgt := 54) hx hb d_Mo_part_41 (by decide) (fun h4 => ?_) (fun h4 => ?_)
      · skip
        refine lv_bipush (v := (-4)) hx hb d_Mo_part_54 (by decide) ?_
        refine hret _ _ _ _ _ _ _ _ _ d_Mo_part_56 hM ?_
        refine ⟨by assumption, ?_⟩
        rw [if_pos (by omega), hqt]
        simp only [Int.toNat_natCast]
        rw [if_neg (by assumption)]
        trivial
      · skip
        refine lv_aload_n hx hb d_Mo_part_44 rfl (lv_at hl 1 rfl) ?_
        refine mo_getr hC hK hM 37 wf_Mo_72 rfl (by decide) (by decide) d_Mo_part_45 ?_
        refine lv_iload hx hb d_Mo_part_48 (lv_at hl 0 rfl) ?_
        refine mo_ialdN hC hK hM 37 (ixp x.toInt y.toInt z.toInt) (by decide) rfl (n := 3375) rfl (by decide) (i := nI (ixp x.toInt y.toInt z.toInt)) (rfl) ((ixp_eq (by omega)).2) (v := (a3 37) (ixp x.toInt y.toInt z.toInt)) (rfl) d_Mo_part_50 ?_
        refine lv_goto (tgt := 56) hx hb d_Mo_part_51 (by decide) ?_
        refine hret _ _ _ _ _ _ _ _ _ d_Mo_part_56 hM ?_
        refine ⟨by assumption, ?_⟩
        rw [if_pos (by omega), hqt]
        simp only [Int.toNat_natCast]
        rw [if_pos (by assumption)]
        exact part_at (ixp_eq (by omega)).2 (by assumption) hnm_p3
    · skip
      refine lv_iconst (v := (-1)) hx hb d_Mo_part_18 (by decide) ?_
      exact hret _ _ _ _ _ _ _ _ _ d_Mo_part_19 hM (⟨SP_a (fun _ _ => rfl), by rw [if_neg (by omega)]⟩)
set_option maxHeartbeats 2000000 in
set_option maxRecDepth 100000 in
theorem c_Mo_slice (l : Launch) (D : va_G) (cT : Nat → ClassId) (ad : Nat → Nat) (I : Nat → Int32) (J : Nat → Int64) (a : Nat → Nat → Int32) (g : Nat → Nat → Int64) (b : Int32) (z : Int32) (what : Int32) (nbo : Nat) (T : Nat → TX) (hnb : I 0 = nI nbo) (h8 : nbo ≤ 8) (hT : ∀ q, q < nbo → BDT a q (T q)) : MMi l D cT ad y_Mo_slice b_Mo_slice 10 (some .int) 6 169 [.int b, .int z, .int what] I J a g (fun r u => SP I a u ∧ r = if (0 ≤ b.toInt ∧ b.toInt < (nbo : Int)) ∧ (-7 ≤ z.toInt ∧ z.toInt ≤ 7) ∧ 0 ≤ what.toInt ∧ what.toInt ≤ 2 then nI (if what.toInt = 0 then cn (fun j => vw (T b.toInt.toNat) (225 * (z.toInt + 7).toNat + j)) 225 else if what.toInt = 1 then cn (ol1 (T b.toInt.toNat) (z.toInt + 7).toNat) 900 else cn (pc1 (T b.toInt.toNat) (z.toInt + 7).toNat) 225) else -1) := by
  refine mo_enti (by decide) rfl (Nat.le_of_ble_eq_true rfl) ?_
  intro p e s m args below meth c Q hC hK hM hret ls hl
  have hx := hC.1
  have hb := hC.2.1
  replace hl : lv_has ls 10 [(0, .ref (ad 46)), (1, .int b), (2, .int z), (3, .int what)] := hl
  refine lv_aload_n hx hb d_Mo_slice_0 rfl (lv_at hl 0 rfl) ?_
  refine lv_iload_n hx hb d_Mo_slice_1 rfl (lv_at hl 1 rfl) ?_
  refine mo_callr (np := 1) hC hK hM (c_Mo_is l D cT ad I J a g b nbo hnb h8) rfl ⟨wl_Mo_204, wi_Mo_is, ws_Mo_is, wc_Mo_is, wn_Mo⟩ ⟨by decide, by decide, by decide +kernel⟩ ⟨Nat.le_of_ble_eq_true rfl, Nat.le_of_ble_eq_true rfl⟩ hl.1 rfl (rest := []) rfl (Nat.le_of_ble_eq_true rfl) ⟨Nat.zero_le _, Nat.zero_le _⟩ d_Mo_slice_2 (fun rr hrr => ?_)
  subst hrr
  refine bz_eq (tgt := 34) hx hb d_Mo_slice_5 (by decide) (fun h1 => ?_) (fun h1 => ?_)
  · skip
    refine lv_iconst (v := (-1)) hx hb d_Mo_slice_34 (by decide) ?_
    exact hret _ _ _ _ _ _ _ _ _ d_Mo_slice_35 hM (⟨SP_a (fun _ _ => rfl), by rw [if_neg (by omega)]⟩)
  · skip
    refine lv_iload_n hx hb d_Mo_slice_8 rfl (lv_at hl 2 rfl) ?_
    refine lv_i2l (v := iL z.toInt) hx hb d_Mo_slice_9 (x_l _) ?_
    refine lv_ldc2 (v := (-7)) hx hb hC.2.2.2.1 (hC.2.2.2.2 _ wx_Mo_217) d_Mo_slice_10 ?_
    refine lv_ldc2 (v := 7) hx hb hC.2.2.2.1 (hC.2.2.2.2 _ wx_Mo_219) d_Mo_slice_13 ?_
    refine st_calli (np := 3) hC (c_Mo_in l (iL (z.toInt)) (-7) 7 z.toInt (-7) 7 (iL_tx z) rfl rfl) ⟨wl_Mo_91, wt_Mo_in, wc_Mo_in, wn_Mo⟩ ⟨by decide, by decide, by decide +kernel⟩ ⟨Nat.le_of_ble_eq_true rfl, Nat.le_of_ble_eq_true rfl⟩ hl.1 rfl (rest := []) rfl (Nat.le_of_ble_eq_true rfl) ⟨Nat.zero_le _, Nat.zero_le _⟩ d_Mo_slice_16 (fun rr hrr => ?_)
    subst hrr
    refine bz_eq (tgt := 34) hx hb d_Mo_slice_19 (by decide) (fun h2 => ?_) (fun h2 => ?_)
    · skip
      refine lv_iconst (v := (-1)) hx hb d_Mo_slice_34 (by decide) ?_
      exact hret _ _ _ _ _ _ _ _ _ d_Mo_slice_35 hM (⟨SP_a (fun _ _ => rfl), by rw [if_neg (by omega)]⟩)
    · skip
      refine lv_iload_n hx hb d_Mo_slice_22 rfl (lv_at hl 3 rfl) ?_
      refine lv_i2l (v := iL what.toInt) hx hb d_Mo_slice_23 (x_l _) ?_
      refine lv_lconst (v := 0) hx hb d_Mo_slice_24 (by decide) ?_
      refine lv_ldc2 (v := 2) hx hb hC.2.2.2.1 (hC.2.2.2.2 _ wx_Mo_153) d_Mo_slice_25 ?_
      refine st_calli (np := 3) hC (c_Mo_in l (iL (what.toInt)) 0 2 what.toInt 0 2 (iL_tx what) rfl rfl) ⟨wl_Mo_91, wt_Mo_in, wc_Mo_in, wn_Mo⟩ ⟨by decide, by decide, by decide +kernel⟩ ⟨Nat.le_of_ble_eq_true rfl, Nat.le_of_ble_eq_true rfl⟩ hl.1 rfl (rest := []) rfl (Nat.le_of_ble_eq_true rfl) ⟨Nat.zero_le _, Nat.zero_le _⟩ d_Mo_slice_28 (fun rr hrr => ?_)
      subst hrr
      refine bz_ne (tgt := 36) hx hb d_Mo_slice_31 (by decide) (fun h3 => ?_) (fun h3 => ?_)
      · skip
        obtain ⟨q, hq, rfl, hqt⟩ := ex_nI (n := 7) (x := b) (by omega) (by omega)
        have hqn : q < nbo := by omega
        obtain ⟨zz, hzz, hzt⟩ : ∃ zz : Nat, zz ≤ 14 ∧ z.toInt = (zz : Int) - 7 := ⟨(z.toInt + 7).toNat, by omega, by omega⟩
        obtain rfl : z = iI ((zz : Int) - 7) := by rw [← hzt]; exact iI_of z
        refine lv_aload_n hx hb d_Mo_slice_36 rfl (lv_at hl 0 rfl) ?_
        refine lv_iload_n hx hb d_Mo_slice_37 rfl (lv_at hl 1 rfl) ?_
        refine mo_callv (np := 1) hC hK hM (c_Mo_ask l D cT ad I J a g q (T q) (by omega) (hT q (by omega))) rfl ⟨wl_Mo_263, wi_Mo_ask, ws_Mo_ask, wc_Mo_ask, wn_Mo⟩ ⟨by decide, by decide, by decide +kernel⟩ ⟨Nat.le_of_ble_eq_true rfl, Nat.le_of_ble_eq_true rfl⟩ hl.1 rfl (rest := []) rfl (Nat.le_of_ble_eq_true rfl) ⟨Nat.zero_le _, Nat.zero_le _⟩ d_Mo_slice_38 (fun I4 J4 a4 g4 H locs hp4 hM => ?_)
        obtain ⟨hI_p4, hA_p4⟩ := hp4
        replace hI_p4 : I4 = I := hI_p4
        replace hA_p4 : a4 = va_up a 33 (pt (a 33) (wi (T q)) 0 3375) := hA_p4
        rw [hI_p4, hA_p4] at hM
        refine lv_bipush (v := (-7)) hx hb d_Mo_slice_41 (by decide) ?_
        refine lv_bipush (v := (-7)) hx hb d_Mo_slice_43 (by decide) ?_
        refine lv_iload_n hx hb d_Mo_slice_45 rfl (lv_at hl 2 rfl) ?_
        refine st_calli (np := 3) hC (c_Mo_indexOf l (-7) (-7) ((↑zz : Int) - 7)) ⟨wl_Mo_256, wt_Mo_indexOf, wc_Mo_indexOf, wn_Mo⟩ ⟨by decide, by decide, by decide +kernel⟩ ⟨Nat.le_of_ble_eq_true rfl, Nat.le_of_ble_eq_true rfl⟩ hl.1 rfl (rest := []) rfl (Nat.le_of_ble_eq_true rfl) ⟨Nat.zero_le _, Nat.zero_le _⟩ d_Mo_slice_46 (fun rr hrr => ?_)
        replace hrr : rr = nI (225 * zz) := hrr.trans (iI_nI (by omega))
        subst hrr
        refine lv_istore (lv' := [(4, .int (nI (225 * zz))), (0, .ref (ad 46)), (1, .int (nI q)), (2, .int (iI ((↑zz : Int) - 7))), (3, .int what)]) hx hb d_Mo_slice_49 hl (by decide) rfl (fun ls hl => ?_)
        refine lv_iconst (v := 0) hx hb d_Mo_slice_51 (by decide) ?_
        refine lv_istore (lv' := [(5, .int 0), (4, .int (nI (225 * zz))), (0, .ref (ad 46)), (1, .int (nI q)), (2, .int (iI ((↑zz : Int) - 7))), (3, .int what)]) hx hb d_Mo_slice_52 hl (by decide) rfl (fun ls hl => ?_)
        refine lv_iconst (v := 0) hx hb d_Mo_slice_54 (by decide) ?_
        refine lv_istore (lv' := [(6, .int 0), (5, .int 0), (4, .int (nI (225 * zz))), (0, .ref (ad 46)), (1, .int (nI q)), (2, .int (iI ((↑zz : Int) - 7))), (3, .int what)]) hx hb d_Mo_slice_55 hl (by decide) rfl (fun ls hl => ?_)
        refine lv_iconst (v := 0) hx hb d_Mo_slice_57 (by decide) ?_
        refine lv_istore (lv' := [(7, .int 0), (6, .int 0), (5, .int 0), (4, .int (nI (225 * zz))), (0, .ref (ad 46)), (1, .int (nI q)), (2, .int (iI ((↑zz : Int) - 7))), (3, .int what)]) hx hb d_Mo_slice_58 hl (by decide) rfl (fun ls hl => ?_)
        refine lv_iload hx hb d_Mo_slice_60 (lv_at hl 3 rfl) ?_
        refine lv_istore (lv' := [(8, .int (nI (225 * zz))), (7, .int 0), (6, .int 0), (5, .int 0), (4, .int (nI (225 * zz))), (0, .ref (ad 46)), (1, .int (nI q)), (2, .int (iI ((↑zz : Int) - 7))), (3, .int what)]) hx hb d_Mo_slice_62 hl (by decide) rfl (fun ls hl => ?_)
        have hL64 : ∀ (nn : Nat) (i : Nat) (PF9 : Nat → Int32) (H : Heap) (locs : List Loc) (ls : Array Slot), 225 - i < nn → (i ≤ 225) → (∀ j, j < i → PF9 (225 * zz + j) = -4) → MO D cT ad I J4 (va_up (va_up a 33 (pt (a 33) (wi (T q)) 0 3375)) 37 PF9) g4 s.heap H locs → lv_has ls 10 [(0, .ref (ad 46)), (3, .int what), (4, .int (nI (225 * zz))), (5, .int 0), (6, .int 0), (7, .int 0), (8, .int (nI (225 * zz + i)))] → W p l e (rmOf 6 169) s m args below meth c H locs 0 0 Q (F0 m 64 ls []) := by
          intro nn
          induction nn with
          | zero =>
            intro i PF9 H locs ls hmeas64 hi hP9 hM hl
            exact absurd hmeas64 (Nat.not_lt_zero _)
          | succ nn ih64 =>
            intro i PF9 H locs ls hmeas64 hi hP9 hM hl
            refine lv_iload hx hb d_Mo_slice_64 (lv_at hl 6 rfl) ?_
            refine lv_iload hx hb d_Mo_slice_66 (lv_at hl 2 rfl) ?_
            refine lv_sipush (v := 225) hx hb d_Mo_slice_68 (by decide) ?_
            refine lv_iadd hx hb d_Mo_slice_71 ?_
            refine topi_eq (nI_add (225 * zz) 225) ?_
            refine nc_ge hx hb (225 * zz + i) ((225 * zz) + 225) (by omega) (by omega) d_Mo_slice_72 (tgt := 90) (by decide) (fun h5 => ?_) (fun h5 => ?_)
            · skip
              refine lv_iload hx hb d_Mo_slice_90 (lv_at hl 2 rfl) ?_
              refine lv_istore (lv' := [(8, .int (nI (225 * zz))), (0, .ref (ad 46)), (3, .int what), (4, .int (nI (225 * zz))), (5, .int 0), (6, .int 0), (7, .int 0)]) hx hb d_Mo_slice_92 hl (by decide) rfl (fun ls hl => ?_)
              have hL94 : ∀ (nn : Nat) (i : Nat) (RF : Nat → Int32) (PF : Nat → Int32) (H : Heap) (locs : List Loc) (ls : Array Slot), 225 - i < nn → (i ≤ 225) → (MKS (vw (T q)) zz i PF) → MO D cT ad I J4 (va_up (va_up (va_up a 33 (pt (a 33) (wi (T q)) 0 3375)) 38 RF) 37 PF) g4 s.heap H locs → lv_has ls 10 [(0, .ref (ad 46)), (3, .int what), (4, .int (nI (225 * zz))), (5, .int (nI (cn (fun j => vw (T q) (225 * zz + j)) i))), (6, .int (nI (cn (ol1 (T q) zz) (4 * i)))), (7, .int (nI (cn (pc1 (T q) zz) i))), (8, .int (nI (225 * zz + i)))] → W p l e (rmOf 6 169) s m args below meth c H locs 0 0 Q (F0 m 94 ls []) := by
                intro nn
                induction nn with
                | zero =>
                  intro i RF PF H locs ls hmeas94 hi hMK hM hl
                  exact absurd hmeas94 (Nat.not_lt_zero _)
                | succ nn ih94 =>
                  intro i RF PF H locs ls hmeas94 hi hMK hM hl
                  refine lv_iload hx hb d_Mo_slice_94 (lv_at hl 6 rfl) ?_
                  refine lv_iload hx hb d_Mo_slice_96 (lv_at hl 2 rfl) ?_
                  refine lv_sipush (v := 225) hx hb d_Mo_slice_98 (by decide) ?_
                  refine lv_iadd hx hb d_Mo_slice_101 ?_
                  refine topi_eq (nI_add (225 * zz) 225) ?_
                  refine nc_ge hx hb (225 * zz + i) ((225 * zz) + 225) (by omega) (by omega) d_Mo_slice_102 (tgt := 186) (by decide) (fun h6 => ?_) (fun h6 => ?_)
                  · skip
                    refine lv_iload_n hx hb d_Mo_slice_186 rfl (lv_at hl 1 rfl) ?_
                    refine yz_ne hx hb what.toInt (rfl) d_Mo_slice_187 (tgt := 195) (by decide) (fun h7 => ?_) (fun h7 => ?_)
                    · skip
                      refine lv_iload_n hx hb d_Mo_slice_195 rfl (lv_at hl 1 rfl) ?_
                      refine lv_iconst (v := 1) hx hb d_Mo_slice_196 (by decide) ?_
                      refine yc_ne hx hb what.toInt 1 (rfl) (rfl) d_Mo_slice_197 (tgt := 205) (by decide) (fun h8 => ?_) (fun h8 => ?_)
                      · skip
                        refine lv_iload hx hb d_Mo_slice_205 (lv_at hl 5 rfl) ?_
                        refine hret _ _ _ _ _ _ _ _ _ d_Mo_slice_207 hM ?_
                        obtain rfl : i = 225 := by omega
                        refine ⟨SP_a (fun k hk => (va_up_ne _ _ (by omega)).trans ((va_up_ne _ _ (by omega)).trans (va_up_ne _ _ (by omega)))), ?_⟩
                        rw [if_pos (by omega), hqt, hzt]
                        simp only [Int.toNat_natCast, show ((↑zz : Int) - 7 + 7).toNat = zz by omega, if_neg h7, if_neg h8]
                      · skip
                        refine lv_iload hx hb d_Mo_slice_200 (lv_at hl 4 rfl) ?_
                        refine lv_goto (tgt := 207) hx hb d_Mo_slice_202 (by decide) ?_
                        refine hret _ _ _ _ _ _ _ _ _ d_Mo_slice_207 hM ?_
                        obtain rfl : i = 225 := by omega
                        refine ⟨SP_a (fun k hk => (va_up_ne _ _ (by omega)).trans ((va_up_ne _ _ (by omega)).trans (va_up_ne _ _ (by omega)))), ?_⟩
                        rw [if_pos (by omega), hqt, hzt]
                        simp only [Int.toNat_natCast, show ((↑zz : Int) - 7 + 7).toNat = zz by omega, if_neg h7, if_pos h8]
                    · skip
                      refine lv_iload hx hb d_Mo_slice_190 (lv_at hl 3 rfl) ?_
                      refine lv_goto (tgt := 207) hx hb d_Mo_slice_192 (by decide) ?_
                      refine hret _ _ _ _ _ _ _ _ _ d_Mo_slice_207 hM ?_
                      obtain rfl : i = 225 := by omega
                      refine ⟨SP_a (fun k hk => (va_up_ne _ _ (by omega)).trans ((va_up_ne _ _ (by omega)).trans (va_up_ne _ _ (by omega)))), ?_⟩
                      rw [if_pos (by omega), hqt, hzt]
                      simp only [Int.toNat_natCast, show ((↑zz : Int) - 7 + 7).toNat = zz by omega, if_pos h7]
                  · skip
                    refine lv_aload_n hx hb d_Mo_slice_105 rfl (lv_at hl 0 rfl) ?_
                    refine mo_getr hC hK hM 33 wf_Mo_59 rfl (by decide) (by decide) d_Mo_slice_106 ?_
                    refine lv_iload hx hb d_Mo_slice_109 (lv_at hl 6 rfl) ?_
                    refine mo_zaldN hC hK hM 33 (225 * zz + i) (by decide) rfl (n := 3375) rfl (by decide) (i := nI (225 * zz + i)) (rfl) (by omega) (v := bI (vw (T q) (225 * zz + i) = true)) (ask_at _ (by omega)) d_Mo_slice_111 ?_
                    refine bz_eq (tgt := 180) hx hb d_Mo_slice_112 (by decide) (fun h9 => ?_) (fun h9 => ?_)
                    · skip
                      refine lv_iinc (v := nI ((225 * zz + i) + 1)) (lv' := [(8, .int (nI ((225 * zz + i) + 1))), (0, .ref (ad 46)), (3, .int what), (4, .int (nI (225 * zz))), (5, .int (nI (cn (fun j => vw (T q) (225 * zz + j)) i))), (6, .int (nI (cn (ol1 (T q) zz) (4 * i)))), (7, .int (nI (cn (pc1 (T q) zz) i)))]) hx hb d_Mo_slice_180 hl (k := 6) rfl (nI_add (225 * zz + i) 1) (by decide) rfl (fun ls hl => ?_)
                      refine lv_goto (tgt := 94) hx hb d_Mo_slice_183 (by decide) ?_
                      exact ih94 (i + 1) _ _ _ _ _ (by omega) (by omega) (MKS_nv (by omega) (by omega) hMK h9) (hM) (by rw [show cn (fun j => vw (T q) (225 * zz + j)) (i + 1) = cn (fun j => vw (T q) (225 * zz + j)) i from cn_no (Bool.eq_false_iff.mpr h9), ol_nv h9, pc1_s true (fun z => absurd z h9), if_neg h9, Nat.add_zero]; exact lv_sub hl [1, 2, 3, 4, 5, 6, 0] rfl)
                    · skip
                      refine lv_iinc (v := nI ((cn (fun j => vw (T q) (225 * zz + j)) i) + 1)) (lv' := [(5, .int (nI ((cn (fun j => vw (T q) (225 * zz + j)) i) + 1))), (0, .ref (ad 46)), (3, .int what), (4, .int (nI (225 * zz))), (6, .int (nI (cn (ol1 (T q) zz) (4 * i)))), (7, .int (nI (cn (pc1 (T q) zz) i))), (8, .int (nI (225 * zz + i)))]) hx hb d_Mo_slice_115 hl (k := 3) rfl (nI_add (cn (fun j => vw (T q) (225 * zz + j)) i) 1) (by decide) rfl (fun ls hl => ?_)
                      have hv9 : vw (T q) (225 * zz + i) = true := by assumption
                      refine lv_iconst (v := 0) hx hb d_Mo_slice_118 (by decide) ?_
                      refine lv_istore (lv' := [(9, .int 0), (5, .int (nI ((cn (fun j => vw (T q) (225 * zz + j)) i) + 1))), (0, .ref (ad 46)), (3, .int what), (4, .int (nI (225 * zz))), (6, .int (nI (cn (ol1 (T q) zz) (4 * i)))), (7, .int (nI (cn (pc1 (T q) zz) i))), (8, .int (nI (225 * zz + i)))]) hx hb d_Mo_slice_119 hl (by decide) rfl (fun ls hl => ?_)
                      have hL121 : ∀ (nn : Nat) (w : Nat) (H : Heap) (locs : List Loc) (ls : Array Slot), 4 - w < nn → (w ≤ 4) → MO D cT ad I J4 (va_up (va_up (va_up a 33 (pt (a 33) (wi (T q)) 0 3375)) 38 RF) 37 PF) g4 s.heap H locs → lv_has ls 10 [(0, .ref (ad 46)), (3, .int what), (4, .int (nI (225 * zz))), (5, .int (nI (cn (fun j => vw (T q) (225 * zz + j)) i + 1))), (6, .int (nI (cn (ol1 (T q) zz) (4 * i + w)))), (7, .int (nI (cn (pc1 (T q) zz) i))), (8, .int (nI (225 * zz + i))), (9, .int (nI w))] → W p l e (rmOf 6 169) s m args below meth c H locs 0 0 Q (F0 m 121 ls []) := by
                        intro nn
                        induction nn with
                        | zero =>
                          intro w H locs ls hmeas121 hw hM hl
                          exact absurd hmeas121 (Nat.not_lt_zero _)
                        | succ nn ih121 =>
                          intro w H locs ls hmeas121 hw hM hl
                          refine lv_iload hx hb d_Mo_slice_121 (lv_at hl 7 rfl) ?_
                          refine lv_iconst (v := 4) hx hb d_Mo_slice_123 (by decide) ?_
                          refine nc_ge hx hb w 4 (by omega) (by omega) d_Mo_slice_124 (tgt := 154) (by decide) (fun h10 => ?_) (fun h10 => ?_)
                          · skip
                            obtain rfl : w = 4 := by omega
                            rw [show 4 * i + 4 = 4 * (i + 1) by omega] at hl
                            refine lv_aload_n hx hb d_Mo_slice_154 rfl (lv_at hl 0 rfl) ?_
                            refine mo_getr hC hK hM 37 wf_Mo_72 rfl (by decide) (by decide) d_Mo_slice_155 ?_
                            refine lv_iload hx hb d_Mo_slice_158 (lv_at hl 6 rfl) ?_
                            refine mo_ialdN hC hK hM 37 (225 * zz + i) (by decide) rfl (n := 3375) rfl (by decide) (i := nI (225 * zz + i)) (rfl) (by omega) (v := PF (225 * zz + i)) (rfl) d_Mo_slice_160 ?_
                            refine lv_bipush (v := (-4)) hx hb d_Mo_slice_161 (by decide) ?_
                            refine yc_ne hx hb ((PF (225 * zz + i)).toInt) (-4) (rfl) (rfl) d_Mo_slice_163 (tgt := 180) (by decide) (fun h11 => ?_) (fun h11 => ?_)
                            · skip
                              refine lv_iinc (v := nI ((225 * zz + i) + 1)) (lv' := [(8, .int (nI ((225 * zz + i) + 1))), (0, .ref (ad 46)), (3, .int what), (4, .int (nI (225 * zz))), (5, .int (nI (cn (fun j => vw (T q) (225 * zz + j)) i + 1))), (6, .int (nI (cn (ol1 (T q) zz) ((4 * (i + 1)))))), (7, .int (nI (cn (pc1 (T q) zz) i))), (9, .int (nI 4))]) hx hb d_Mo_slice_180 hl (k := 6) rfl (nI_add (225 * zz + i) 1) (by decide) rfl (fun ls hl => ?_)
                              refine lv_goto (tgt := 94) hx hb d_Mo_slice_183 (by decide) ?_
                              have hno := MKS_no (by omega) (by omega) hMK hv9 (fun z => h11 (by rw [z]; rfl))
                              exact ih94 (i + 1) _ _ _ _ _ (by omega) (by omega) (hno.1) (hM) (by rw [show cn (fun j => vw (T q) (225 * zz + j)) (i + 1) = cn (fun j => vw (T q) (225 * zz + j)) i + 1 from cn_yes hv9, pc1_s _ (fun _ => hno.2), if_pos hv9, if_neg (by decide), Nat.add_zero]; exact lv_sub hl [1, 2, 3, 4, 5, 6, 0] rfl)
                            · skip
                              have hnum9 := num_ne (n := cn (pc1 (T q) zz) i) (by have := cn_le (pc1 (T q) zz) i; omega)
                              have hp9 : PF (225 * zz + i) = -4 := Int32.toInt_inj.mp (by rw [show (-4 : Int32).toInt = -4 from rfl]; assumption)
                              have hlst9 := MKS_lst (by omega) (by omega) hMK hv9 hp9
                              refine lv_aload_n hx hb d_Mo_slice_166 rfl (lv_at hl 0 rfl) ?_
                              refine lv_iload hx hb d_Mo_slice_167 (lv_at hl 6 rfl) ?_
                              refine lv_iload hx hb d_Mo_slice_169 (lv_at hl 5 rfl) ?_
                              refine lv_iconst (v := 4) hx hb d_Mo_slice_171 (by decide) ?_
                              refine mo_calli (np := 3) hC hK hM (c_Mo_spread l D cT ad I J4 (va_up (va_up (va_up a 33 (pt (a 33) (wi (T q)) 0 3375)) 38 RF) 37 PF) g4 (225 * zz + i) (nI (cn (pc1 (T q) zz) i)) 4 (by omega) (by omega) hnum9) rfl ⟨wl_Mo_292, wi_Mo_spread, ws_Mo_spread, wc_Mo_spread, wn_Mo⟩ ⟨by decide, by decide, by decide +kernel⟩ ⟨Nat.le_of_ble_eq_true rfl, Nat.le_of_ble_eq_true rfl⟩ hl.1 rfl (rest := []) rfl (Nat.le_of_ble_eq_true rfl) ⟨Nat.zero_le _, Nat.zero_le _⟩ d_Mo_slice_172 (fun rr12 I13 J13 a13 g13 H locs hp13 hM => ?_)
                              obtain ⟨qu_p13, mm_p13, RF_p13, PF_p13, hr_p13, hu_p13, hS_p13, hC_p13⟩ := hp13
                              cases hu_p13
                              subst hr_p13
                              replace hS_p13 : SPR 4 (225 * zz + i) (nI (cn (pc1 (T q) zz) i)) PF (pt (a 33) (wi (T q)) 0 3375) PF_p13 RF_p13 qu_p13 mm_p13 := hS_p13
                              replace hC_p13 : SPC 4 (225 * zz + i) PF (pt (a 33) (wi (T q)) 0 3375) qu_p13 mm_p13 mm_p13 0 := hC_p13
                              rw [up_swap (i := 37) (j := 38) (by decide), bx_uu, bx_uu] at hM
                              have hset9 := sp_hng (V := vw (T q)) (R := fun x => x < 3375 ∧ x / 225 = zz) hS_p13 hC_p13 (fun _ h => h.1) (by omega) (fun _ _ h1 h2 h3 => ⟨h3, sl4 h1.2 h2 h3⟩) (fun y hy => ask_at y hy) (by assumption) (MKS_cl (by omega) (by omega) hMK hv9)
                              refine lv_istore (lv' := [(9, .int (nI mm_p13)), (0, .ref (ad 46)), (3, .int what), (4, .int (nI (225 * zz))), (5, .int (nI (cn (fun j => vw (T q) (225 * zz + j)) i + 1))), (6, .int (nI (cn (ol1 (T q) zz) ((4 * (i + 1)))))), (7, .int (nI (cn (pc1 (T q) zz) i))), (8, .int (nI (225 * zz + i)))]) hx hb d_Mo_slice_175 hl (by decide) rfl (fun ls hl => ?_)
                              refine lv_iinc (v := nI ((cn (pc1 (T q) zz) i) + 1)) (lv' := [(7, .int (nI ((cn (pc1 (T q) zz) i) + 1))), (9, .int (nI mm_p13)), (0, .ref (ad 46)), (3, .int what), (4, .int (nI (225 * zz))), (5, .int (nI (cn (fun j => vw (T q) (225 * zz + j)) i + 1))), (6, .int (nI (cn (ol1 (T q) zz) ((4 * (i + 1)))))), (8, .int (nI (225 * zz + i)))]) hx hb d_Mo_slice_177 hl (k := 6) rfl (nI_add (cn (pc1 (T q) zz) i) 1) (by decide) rfl (fun ls hl => ?_)
                              refine lv_iinc (v := nI ((225 * zz + i) + 1)) (lv' := [(8, .int (nI ((225 * zz + i) + 1))), (7, .int (nI ((cn (pc1 (T q) zz) i) + 1))), (9, .int (nI mm_p13)), (0, .ref (ad 46)), (3, .int what), (4, .int (nI (225 * zz))), (5, .int (nI (cn (fun j => vw (T q) (225 * zz + j)) i + 1))), (6, .int (nI (cn (ol1 (T q) zz) ((4 * (i + 1))))))]) hx hb d_Mo_slice_180 hl (k := 7) rfl (nI_add (225 * zz + i) 1) (by decide) rfl (fun ls hl => ?_)
                              refine lv_goto (tgt := 94) hx hb d_Mo_slice_183 (by decide) ?_
                              exact ih94 (i + 1) _ _ _ _ _ (by omega) (by omega) (MKS_yes hMK hnum9 (SP_at hS_p13 hset9)) (hM) (by rw [show cn (fun j => vw (T q) (225 * zz + j)) (i + 1) = cn (fun j => vw (T q) (225 * zz + j)) i + 1 from cn_yes hv9, pc1_s _ (fun _ => hlst9), if_pos hv9, if_pos rfl]; exact lv_sub hl [3, 4, 5, 6, 7, 1, 0] rfl)
                          · skip
                            refine lv_iload hx hb d_Mo_slice_127 (lv_at hl 4 rfl) ?_
                            refine lv_aload_n hx hb d_Mo_slice_129 rfl (lv_at hl 0 rfl) ?_
                            refine lv_iload hx hb d_Mo_slice_130 (lv_at hl 6 rfl) ?_
                            refine lv_iload hx hb d_Mo_slice_132 (lv_at hl 7 rfl) ?_
                            refine mo_callr (np := 2) hC hK hM (c_Mo_hasSide l D cT ad I J4 (va_up (va_up (va_up a 33 (pt (a 33) (wi (T q)) 0 3375)) 38 RF) 37 PF) g4 (225 * zz + i) w ask_01 (by omega) (by omega)) rfl ⟨wl_Mo_268, wi_Mo_hasSide, ws_Mo_hasSide, wc_Mo_hasSide, wn_Mo⟩ ⟨by decide, by decide, by decide +kernel⟩ ⟨Nat.le_of_ble_eq_true rfl, Nat.le_of_ble_eq_true rfl⟩ hl.1 rfl (rest := [.int (nI (cn (ol1 (T q) zz) (4 * i + w)))]) rfl (Nat.le_of_ble_eq_true rfl) ⟨Nat.zero_le _, Nat.zero_le _⟩ d_Mo_slice_134 (fun rr hrr => ?_)
                            replace hrr : rr = bI (hsd (T q) (225 * zz + i) w = true) := hrr.trans (bI_c (hsd_c ask_at))
                            subst hrr
                            have hJ14 : ∀ (H : Heap) (locs : List Loc) (ls : Array Slot), MO D cT ad I J4 (va_up (va_up (va_up a 33 (pt (a 33) (wi (T q)) 0 3375)) 38 RF) 37 PF) g4 s.heap H locs → lv_has ls 10 [(0, .ref (ad 46)), (3, .int what), (4, .int (nI (225 * zz))), (5, .int (nI (cn (fun j => vw (T q) (225 * zz + j)) i + 1))), (6, .int (nI (cn (ol1 (T q) zz) (4 * i + w)))), (7, .int (nI (cn (pc1 (T q) zz) i))), (8, .int (nI (225 * zz + i))), (9, .int (nI w))] → W p l e (rmOf 6 169) s m args below meth c H locs 0 0 Q (F0 m 145 ls [.int (nI (if hsd (T q) (225 * zz + i) w = true then 0 else 1)), .int (nI (cn (ol1 (T q) zz) (4 * i + w)))]) := ?_
                            · skip
                              refine bz_eq (tgt := 144) hx hb d_Mo_slice_137 (by decide) (fun h15 => ?_) (fun h15 => ?_)
                              · skip
                                refine lv_iconst (v := 1) hx hb d_Mo_slice_144 (by decide) ?_
                                refine topi_eq (show (1 : Int32) = nI (if hsd (T q) (225 * zz + i) w = true then 0 else 1) by first | rfl | exact (bI_t (by assumption)).symm | exact (bI_f (by assumption)).symm | exact (bI_f (fun z => z (by assumption))).symm | (rw [if_neg h15]; done) | (rw [if_neg h15]; rfl) | (simp only [if_neg h15]; done) | (simp only [if_neg h15]; rfl)) ?_
                                exact hJ14 _ _ _ (by first | exact hM | (simp only [if_neg h15]; exact hM)) (by first | exact lv_sub hl [0, 1, 2, 3, 4, 5, 6, 7] rfl | (simp only [if_neg h15]; exact lv_sub hl [0, 1, 2, 3, 4, 5, 6, 7] rfl))
                              · skip
                                refine lv_iconst (v := 0) hx hb d_Mo_slice_140 (by decide) ?_
                                refine lv_goto (tgt := 145) hx hb d_Mo_slice_141 (by decide) ?_
                                refine topi_eq (show (0 : Int32) = nI (if hsd (T q) (225 * zz + i) w = true then 0 else 1) by first | rfl | exact (bI_t (by assumption)).symm | exact (bI_f (by assumption)).symm | exact (bI_f (fun z => z (by assumption))).symm | (rw [if_pos h15]; done) | (rw [if_pos h15]; rfl) | (simp only [if_pos h15]; done) | (simp only [if_pos h15]; rfl)) ?_
                                exact hJ14 _ _ _ (by first | exact hM | (simp only [if_pos h15]; exact hM)) (by first | exact lv_sub hl [0, 1, 2, 3, 4, 5, 6, 7] rfl | (simp only [if_pos h15]; exact lv_sub hl [0, 1, 2, 3, 4, 5, 6, 7] rfl))
                            intro H locs ls hM hl
                            refine lv_iadd hx hb d_Mo_slice_145 ?_
                            refine topi_eq (nI_add (cn (ol1 (T q) zz) (4 * i + w)) (if hsd (T q) (225 * zz + i) w = true then 0 else 1)) ?_
                            refine lv_istore (lv' := [(6, .int (nI ((cn (ol1 (T q) zz) (4 * i + w)) + (if hsd (T q) (225 * zz + i) w = true then 0 else 1)))), (0, .ref (ad 46)), (3, .int what), (4, .int (nI (225 * zz))), (5, .int (nI (cn (fun j => vw (T q) (225 * zz + j)) i + 1))), (7, .int (nI (cn (pc1 (T q) zz) i))), (8, .int (nI (225 * zz + i))), (9, .int (nI w))]) hx hb d_Mo_slice_146 hl (by decide) rfl (fun ls hl => ?_)
                            refine lv_iinc (v := nI (w + 1)) (lv' := [(9, .int (nI (w + 1))), (6, .int (nI ((cn (ol1 (T q) zz) (4 * i + w)) + (if hsd (T q) (225 * zz + i) w = true then 0 else 1)))), (0, .ref (ad 46)), (3, .int what), (4, .int (nI (225 * zz))), (5, .int (nI (cn (fun j => vw (T q) (225 * zz + j)) i + 1))), (7, .int (nI (cn (pc1 (T q) zz) i))), (8, .int (nI (225 * zz + i)))]) hx hb d_Mo_slice_148 hl (k := 7) rfl (nI_add w 1) (by decide) rfl (fun ls hl => ?_)
                            refine lv_goto (tgt := 121) hx hb d_Mo_slice_151 (by decide) ?_
                            exact ih121 (w + 1) _ _ _ (by omega) (by omega) (hM) (by rw [ol_s (by omega) hv9]; exact lv_sub hl [2, 3, 4, 5, 1, 6, 7, 0] rfl)
                      exact hL121 _ 0 _ _ _ (Nat.lt_succ_self _) (by omega) (hM) (lv_sub hl [2, 3, 4, 1, 5, 6, 7, 0] rfl)
              exact hL94 _ 0 (a 38) _ _ _ _ (Nat.lt_succ_self _) (by omega) (fun j hj hv => ⟨fun z => absurd (hP9 j (by omega)) z, fun ⟨i, hi, _⟩ => by omega⟩) (by rw [up_same2 (f := va_up a 33 (pt (a 33) (wi (T q)) 0 3375)) (k := 38) (x := a 38) (by rfl)]; exact hM) (lv_sub hl [1, 2, 3, 4, 5, 6, 0] rfl)
            · skip
              refine lv_aload_n hx hb d_Mo_slice_75 rfl (lv_at hl 0 rfl) ?_
              refine mo_getr hC hK hM 37 wf_Mo_72 rfl (by decide) (by decide) d_Mo_slice_76 ?_
              refine lv_iload hx hb d_Mo_slice_79 (lv_at hl 6 rfl) ?_
              refine lv_bipush (v := (-4)) hx hb d_Mo_slice_81 (by decide) ?_
              refine mo_iastN hC hK hM 37 (225 * zz + i) (by decide) rfl (n := 3375) rfl (by decide) (i := nI (225 * zz + i)) (x := (-4)) (rfl) (by omega) d_Mo_slice_83 (fun H locs hM => ?_)
              rw [bx_uu] at hM
              replace hM : MO D cT ad I J4 (va_up (va_up a 33 (pt (a 33) (wi (T q)) 0 3375)) 37 (upd PF9 (225 * zz + i) (-4))) g4 s.heap H locs := hM
              refine lv_iinc (v := nI ((225 * zz + i) + 1)) (lv' := [(8, .int (nI ((225 * zz + i) + 1))), (0, .ref (ad 46)), (3, .int what), (4, .int (nI (225 * zz))), (5, .int 0), (6, .int 0), (7, .int 0)]) hx hb d_Mo_slice_84 hl (k := 6) rfl (nI_add (225 * zz + i) 1) (by decide) rfl (fun ls hl => ?_)
              refine lv_goto (tgt := 64) hx hb d_Mo_slice_87 (by decide) ?_
              exact ih64 (i + 1) _ _ _ _ (by omega) (by omega) (fun j hj => by by_cases z : j = i; (rw [z]; exact pk_us); (rw [pk_un (by omega)]; exact hP9 j (by omega))) (hM) (lv_sub hl [1, 2, 3, 4, 5, 6, 0] rfl)
        exact hL64 _ 0 _ _ _ _ (Nat.lt_succ_self _) (by omega) (fun j hj => by omega) (by rw [up_same2 (f := va_up a 33 (pt (a 33) (wi (T q)) 0 3375)) (k := 37) (x := a 37) (by rfl)]; exact hM) (lv_sub hl [5, 8, 4, 3, 2, 1, 0] rfl)
      · skip
        refine lv_iconst (v := (-1)) hx hb d_Mo_slice_34 (by decide) ?_
        exact hret _ _ _ _ _ _ _ _ _ d_Mo_slice_35 hM (⟨SP_a (fun _ _ => rfl), by rw [if_neg (by omega)]⟩)
