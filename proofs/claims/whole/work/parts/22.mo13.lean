/-! the reference: spread. clo: what hangs together with a place by sides that are good -/
theorem fb_holes : ∀ (m n : Nat) (f : Nat → Nat), (∀ i, i < n → f i < m) → (∀ i j, i < j → j < n → f i ≠ f j) → n ≤ m := by
  intro m
  induction m with
  | zero =>
    intro n f h1 _
    rcases Nat.eq_zero_or_pos n with h | h
    · omega
    · exact absurd (h1 0 h) (Nat.not_lt_zero _)
  | succ m ih =>
    intro n f h1 h2
    by_cases hx : ∃ i, i < n ∧ f i = m
    · obtain ⟨a, ha, hfa⟩ := hx
      have hg := ih (n - 1) (fun i => if i < a then f i else f (i + 1)) (by
        intro i hi
        by_cases q : i < a
        · simp only [if_pos q]
          have b1 := h1 i (by omega)
          have b2 := h2 i a q ha
          omega
        · simp only [if_neg q]
          have b1 := h1 (i + 1) (by omega)
          have b2 := h2 a (i + 1) (by omega) (by omega)
          omega) (by
        intro i j hij hj
        by_cases q : i < a
        · by_cases r : j < a
          · simp only [if_pos q, if_pos r]
            exact h2 i j hij (by omega)
          · simp only [if_pos q, if_neg r]
            exact h2 i (j + 1) (by omega) (by omega)
        · have r : ¬ j < a := by omega
          simp only [if_neg q, if_neg r]
          exact h2 (i + 1) (j + 1) (by omega) (by omega))
      omega
    · have hg := ih n f (fun i hi => by
        have b1 := h1 i hi
        have b2 : f i ≠ m := fun e => hx ⟨i, hi, e⟩
        omega) h2
      omega
def clo (ways : Nat) (ok : Nat → Prop) (f q : Nat) : Prop := ∀ X : Nat → Prop, X f → (∀ x w, X x → w < ways → sdv x w < 3375 → ok (sdv x w) → X (sdv x w)) → X q
theorem clo_0 {ways : Nat} {ok : Nat → Prop} {f : Nat} : clo ways ok f f := fun _ h _ => h
theorem clo_s {ways : Nat} {ok : Nat → Prop} {f x w : Nat} (h : clo ways ok f x) (hw : w < ways) (h1 : sdv x w < 3375) (h2 : ok (sdv x w)) : clo ways ok f (sdv x w) := fun X h0 hs => hs x w (h X h0 hs) hw h1 h2
def sdz (k w : Nat) : Int := if sdv k w = 9999 then -4 else (sdv k w : Int)
theorem sdz_c (k w : Nat) : (if sdv k w = 9999 then -4 else nI (sdv k w)) = iI (sdz k w) := by
  unfold sdz
  split
  · decide
  · rfl
theorem sdv_b {k w : Nat} (hk : k < 3375) : sdv k w = 9999 ∨ sdv k w < 3375 := by
  unfold sdv
  (repeat' split) <;> omega
theorem sdz_ok {k w : Nat} (hk : k < 3375) (h : ¬ sdz k w = -4) : sdz k w = (sdv k w : Int) ∧ sdv k w < 3375 := by
  unfold sdz at *
  by_cases q : sdv k w = 9999
  · rw [if_pos q] at h; exact absurd rfl h
  · rw [if_neg q]
    exact ⟨rfl, (sdv_b hk).resolve_left q⟩
theorem sdz_no {k w : Nat} (h : sdz k w = -4) : ¬ sdv k w < 3375 := by
  unfold sdz at h
  by_cases q : sdv k w = 9999
  · omega
  · rw [if_neg q] at h; omega
theorem sdz_r {k w : Nat} (hk : k < 3375) : -4 ≤ sdz k w ∧ sdz k w < 3375 := by
  unfold sdz
  by_cases q : sdv k w = 9999
  · rw [if_pos q]; omega
  · rw [if_neg q]; have := (sdv_b (w := w) hk).resolve_left q; omega
def okp (P0 W : Nat → Int32) (first y : Nat) : Prop := P0 y = -4 ∧ W y = W first
def SPR (ways first : Nat) (num : Int32) (P0 W PF RF : Nat → Int32) (Q : Nat → Nat) (m : Nat) : Prop := 1 ≤ m ∧ (∀ i, i < m → Q i < 3375 ∧ RF i = nI (Q i) ∧ clo ways (okp P0 W first) first (Q i)) ∧ (∀ i j, i < j → j < m → Q i ≠ Q j) ∧ (∀ j, (∃ i, i < m ∧ Q i = j) → PF j = num) ∧ (∀ j, ¬ (∃ i, i < m ∧ Q i = j) → PF j = P0 j) ∧ Q 0 = first
theorem SPR_m {ways first : Nat} {num : Int32} {P0 W PF RF : Nat → Int32} {Q : Nat → Nat} {m : Nat} (h : SPR ways first num P0 W PF RF Q m) : m ≤ 3375 := fb_holes 3375 m Q (fun i hi => (h.2.1 i hi).1) h.2.2.1
theorem SPR_push {ways first : Nat} {num : Int32} {P0 W PF RF : Nat → Int32} {Q : Nat → Nat} {m q : Nat} (h : SPR ways first num P0 W PF RF Q m) (hq : q < 3375) (hn : ∀ i, i < m → Q i ≠ q) (hc : clo ways (okp P0 W first) first q) : SPR ways first num P0 W (upd PF q num) (upd RF m (nI q)) (va_up Q m q) (m + 1) := by
  obtain ⟨h1, h2, h3, h4, h5, h6⟩ := h
  have e : ∀ i, i < m → va_up Q m q i = Q i := fun i hi => va_up_ne _ _ (by omega)
  have em : va_up Q m q m = q := va_up_self _ _ _
  refine ⟨by omega, fun i hi => ?_, fun i j hij hj => ?_, fun j hj => ?_, fun j hj => ?_, ?_⟩
  · by_cases q1 : i = m
    · rw [q1, em]; exact ⟨hq, pk_us, hc⟩
    · rw [e i (by omega), pk_un q1]; exact h2 i (by omega)
  · rw [e i (by omega)]
    by_cases q1 : j = m
    · rw [q1, em]; exact hn i (by omega)
    · rw [e j (by omega)]; exact h3 i j hij (by omega)
  · obtain ⟨i, hi, hij⟩ := hj
    by_cases q1 : j = q
    · rw [q1]; exact pk_us
    · rw [pk_un q1]
      refine h4 j ⟨i, ?_, ?_⟩
      · rcases (show i < m ∨ i = m by omega) with z | z
        · exact z
        · rw [z, em] at hij; exact absurd hij.symm q1
      · rcases (show i < m ∨ i = m by omega) with z | z
        · rw [e i z] at hij; exact hij
        · rw [z, em] at hij; exact absurd hij.symm q1
  · have q1 : j ≠ q := fun z => hj ⟨m, by omega, by rw [em, z]⟩
    rw [pk_un q1]
    exact h5 j (fun ⟨i, hi, hij⟩ => hj ⟨i, by omega, by rw [e i hi]; exact hij⟩)
  · rw [e 0 (by omega)]; exact h6
theorem SPR_1 {ways first : Nat} {num : Int32} {P0 W RF : Nat → Int32} (hf : first < 3375) : SPR ways first num P0 W (upd P0 first num) (upd RF 0 (nI first)) (fun _ => first) 1 := by
  refine ⟨Nat.le_refl 1, fun i hi => ?_, fun i j hij hj => by omega, fun j hj => ?_, fun j hj => pk_un (fun z => hj ⟨0, by omega, z.symm⟩), rfl⟩
  · have e : i = 0 := by omega
    subst e
    exact ⟨hf, pk_us, clo_0⟩
  · obtain ⟨i, hi, hij⟩ := hj
    rw [← hij]
    exact pk_us
/-- which sides of the i-th are in already: those below w -/
def SPC (ways first : Nat) (P0 W : Nat → Int32) (Q : Nat → Nat) (m i w : Nat) : Prop := ∀ i' w', (i' < i ∧ w' < ways ∨ i' = i ∧ w' < w) → sdv (Q i') w' < 3375 → okp P0 W first (sdv (Q i') w') → ∃ j, j < m ∧ Q j = sdv (Q i') w' 
theorem SPC_next {ways first : Nat} {P0 W : Nat → Int32} {Q : Nat → Nat} {m i w : Nat} (h : SPC ways first P0 W Q m i w) (hn : sdv (Q i) w < 3375 → okp P0 W first (sdv (Q i) w) → ∃ j, j < m ∧ Q j = sdv (Q i) w) : SPC ways first P0 W Q m i (w + 1) := by
  intro i' w' hh h1 h2
  rcases hh with hh | ⟨rfl, hh⟩
  · exact h i' w' (Or.inl hh) h1 h2
  · rcases (show w' < w ∨ w' = w by omega) with z | z
    · exact h i' w' (Or.inr ⟨rfl, z⟩) h1 h2
    · subst z; exact hn h1 h2
theorem SPC_push {ways first : Nat} {P0 W : Nat → Int32} {Q : Nat → Nat} {m i w q : Nat} (hi : i < m) (h : SPC ways first P0 W Q m i w) : SPC ways first P0 W (va_up Q m q) (m + 1) i w := by
  intro i' w' hh h1 h2
  have e : ∀ j, j < m → va_up Q m q j = Q j := fun j hj => va_up_ne _ _ (by omega)
  have hi' : i' < m := by omega
  rw [e i' hi'] at h1 h2 ⊢
  obtain ⟨j, hj, hj2⟩ := h i' w' hh h1 h2
  exact ⟨j, by omega, by rw [e j hj]; exact hj2⟩
theorem SPC_row {ways first : Nat} {P0 W : Nat → Int32} {Q : Nat → Nat} {m i : Nat} (h : SPC ways first P0 W Q m i ways) : SPC ways first P0 W Q m (i + 1) 0 := by
  intro i' w' hh h1 h2
  rcases hh with ⟨a1, a2⟩ | ⟨rfl, a2⟩
  · rcases (show i' < i ∨ i' = i by omega) with z | z
    · exact h i' w' (Or.inl ⟨z, a2⟩) h1 h2
    · exact h i' w' (Or.inr ⟨z, a2⟩) h1 h2
  · omega
theorem SPR_in {ways first : Nat} {num : Int32} {P0 W PF RF : Nat → Int32} {Q : Nat → Nat} {m y : Nat} (hn : ¬ num = -4) (h : SPR ways first num P0 W PF RF Q m) : (PF y = -4 → (∀ i, i < m → Q i ≠ y) ∧ P0 y = -4) ∧ (¬ PF y = -4 → P0 y = -4 → ∃ i, i < m ∧ Q i = y) := by
  obtain ⟨h1, h2, h3, h4, h5, h6⟩ := h
  refine ⟨fun hp => ?_, fun hp h0 => ?_⟩
  · have hno : ¬ (∃ i, i < m ∧ Q i = y) := fun z => hn ((h4 y z).symm.trans hp)
    exact ⟨fun i hi e => hno ⟨i, hi, e⟩, (h5 y hno).symm.trans hp⟩
  · exact Classical.byContradiction fun z => hp ((h5 y z).trans h0)
set_option maxHeartbeats 1000000 in
set_option maxRecDepth 100000 in
theorem c_Mo_spread (l : Launch) (D : va_G) (cT : Nat → ClassId) (ad : Nat → Nat) (I : Nat → Int32) (J : Nat → Int64) (a : Nat → Nat → Int32) (g : Nat → Nat → Int64) (first : Nat) (num : Int32) (ways : Nat)  (hf : first < 3375) (hways : ways ≤ 6) (hnum : ¬ num = -4) : MMi l D cT ad y_Mo_spread b_Mo_spread 8 (some .int) 1 24 [.int (nI first), .int num, .int (nI ways)] I J a g (fun r u => ∃ qu mm RF PF, r = nI mm ∧ u = (I, J, va_up (va_up a 38 RF) 37 PF, g) ∧ SPR ways first num (a 37) (a 33) PF RF qu mm ∧ SPC ways first (a 37) (a 33) qu mm mm 0) := by
  refine mo_enti (by decide) rfl (Nat.le_of_ble_eq_true rfl) ?_
  intro p e s m args below meth c Q hC hK hM hret ls hl
  have hx := hC.1
  have hb := hC.2.1
  replace hl : lv_has ls 8 [(0, .ref (ad 46)), (1, .int (nI first)), (2, .int num), (3, .int (nI ways))] := hl
  refine lv_iconst (v := 1) hx hb d_Mo_spread_0 (by decide) ?_
  refine lv_istore (lv' := [(4, .int 1), (0, .ref (ad 46)), (1, .int (nI first)), (2, .int num), (3, .int (nI ways))]) hx hb d_Mo_spread_1 hl (by decide) rfl (fun ls hl => ?_)
  refine lv_aload_n hx hb d_Mo_spread_3 rfl (lv_at hl 1 rfl) ?_
  refine mo_getr hC hK hM 38 wf_Mo_75 rfl (by decide) (by decide) d_Mo_spread_4 ?_
  refine lv_iconst (v := 0) hx hb d_Mo_spread_7 (by decide) ?_
  refine lv_iload_n hx hb d_Mo_spread_8 rfl (lv_at hl 2 rfl) ?_
  refine mo_iastN hC hK hM 38 0 (by decide) rfl (n := 3375) rfl (by decide) (i := 0) (x := nI first) (rfl) (by decide) d_Mo_spread_9 (fun H locs hM => ?_)
  refine lv_aload_n hx hb d_Mo_spread_10 rfl (lv_at hl 1 rfl) ?_
  refine mo_getr hC hK hM 37 wf_Mo_72 rfl (by decide) (by decide) d_Mo_spread_11 ?_
  refine lv_iload_n hx hb d_Mo_spread_14 rfl (lv_at hl 2 rfl) ?_
  refine lv_iload_n hx hb d_Mo_spread_15 rfl (lv_at hl 3 rfl) ?_
  refine mo_iastN hC hK hM 37 first (by decide) rfl (n := 3375) rfl (by decide) (i := nI first) (x := num) (rfl) (by omega) d_Mo_spread_16 (fun H locs hM => ?_)
  replace hM : MO D cT ad I J (va_up (va_up a 38 (upd (a 38) 0 (nI first))) 37 (upd (a 37) first num)) g s.heap H locs := hM
  refine lv_iconst (v := 0) hx hb d_Mo_spread_17 (by decide) ?_
  refine lv_istore (lv' := [(5, .int 0), (4, .int 1), (0, .ref (ad 46)), (1, .int (nI first)), (2, .int num), (3, .int (nI ways))]) hx hb d_Mo_spread_18 hl (by decide) rfl (fun ls hl => ?_)
  have hL20 : ∀ (nn : Nat) (i : Nat) (mm : Nat) (qu : Nat → Nat) (RF : Nat → Int32) (PF : Nat → Int32) (H : Heap) (locs : List Loc) (ls : Array Slot), 3376 - i < nn → (i ≤ mm ∧ mm ≤ 3375) → (SPR ways first num (a 37) (a 33) PF RF qu mm) → (SPC ways first (a 37) (a 33) qu mm i 0) → MO D cT ad I J (va_up (va_up a 38 RF) 37 PF) g s.heap H locs → lv_has ls 8 [(0, .ref (ad 46)), (1, .int (nI first)), (2, .int num), (3, .int (nI ways)), (4, .int (nI mm)), (5, .int (nI i))] → W p l e (rmOf 1 24) s m args below meth c H locs 0 0 Q (F0 m 20 ls []) := by
    intro nn
    induction nn with
    | zero =>
      intro i mm qu RF PF H locs ls hmeas20 hi hS hC9 hM hl
      exact absurd hmeas20 (Nat.not_lt_zero _)
    | succ nn ih20 =>
      intro i mm qu RF PF H locs ls hmeas20 hi hS hC9 hM hl
      refine lv_iload hx hb d_Mo_spread_20 (lv_at hl 5 rfl) ?_
      refine lv_iload hx hb d_Mo_spread_22 (lv_at hl 4 rfl) ?_
      refine nc_ge hx hb i mm (by omega) (by omega) d_Mo_spread_24 (tgt := 117) (by decide) (fun h1 => ?_) (fun h1 => ?_)
      · skip
        refine lv_iload hx hb d_Mo_spread_117 (lv_at hl 4 rfl) ?_
        refine hret _ _ _ _ _ _ _ _ _ d_Mo_spread_119 hM ?_
        obtain rfl : i = mm := by omega
        exact ⟨qu, i, RF, PF, rfl, rfl, hS, hC9⟩
      · skip
        refine lv_iconst (v := 0) hx hb d_Mo_spread_27 (by decide) ?_
        refine lv_istore (lv' := [(6, .int 0), (0, .ref (ad 46)), (1, .int (nI first)), (2, .int num), (3, .int (nI ways)), (4, .int (nI mm)), (5, .int (nI i))]) hx hb d_Mo_spread_28 hl (by decide) rfl (fun ls hl => ?_)
        have hL30 : ∀ (nn : Nat) (w : Nat) (mm : Nat) (qu : Nat → Nat) (RF : Nat → Int32) (PF : Nat → Int32) (H : Heap) (locs : List Loc) (ls : Array Slot), ways - w < nn → (w ≤ ways ∧ i < mm ∧ mm ≤ 3375) → (SPR ways first num (a 37) (a 33) PF RF qu mm) → (SPC ways first (a 37) (a 33) qu mm i w) → MO D cT ad I J (va_up (va_up a 38 RF) 37 PF) g s.heap H locs → lv_has ls 8 [(0, .ref (ad 46)), (1, .int (nI first)), (2, .int num), (3, .int (nI ways)), (4, .int (nI mm)), (5, .int (nI i)), (6, .int (nI w))] → W p l e (rmOf 1 24) s m args below meth c H locs 0 0 Q (F0 m 30 ls []) := by
          intro nn
          induction nn with
          | zero =>
            intro w mm qu RF PF H locs ls hmeas30 hw hS hC9 hM hl
            exact absurd hmeas30 (Nat.not_lt_zero _)
          | succ nn ih30 =>
            intro w mm qu RF PF H locs ls hmeas30 hw hS hC9 hM hl
            refine lv_iload hx hb d_Mo_spread_30 (lv_at hl 6 rfl) ?_
            refine lv_iload_n hx hb d_Mo_spread_32 rfl (lv_at hl 3 rfl) ?_
            refine nc_ge hx hb w ways (by omega) (by omega) d_Mo_spread_33 (tgt := 111) (by decide) (fun h2 => ?_) (fun h2 => ?_)
            · skip
              refine lv_iinc (v := nI (i + 1)) (lv' := [(5, .int (nI (i + 1))), (0, .ref (ad 46)), (1, .int (nI first)), (2, .int num), (3, .int (nI ways)), (4, .int (nI mm)), (6, .int (nI w))]) hx hb d_Mo_spread_111 hl (k := 5) rfl (nI_add i 1) (by decide) rfl (fun ls hl => ?_)
              refine lv_goto (tgt := 20) hx hb d_Mo_spread_114 (by decide) ?_
              obtain rfl : w = ways := by omega
              exact ih20 (i + 1) mm qu _ _ _ _ _ (by omega) (by omega) (hS) (SPC_row hC9) (hM) (lv_sub hl [1, 2, 3, 4, 5, 0] rfl)
            · skip
              refine lv_aload_n hx hb d_Mo_spread_36 rfl (lv_at hl 0 rfl) ?_
              refine mo_getr hC hK hM 38 wf_Mo_75 rfl (by decide) (by decide) d_Mo_spread_37 ?_
              refine lv_iload hx hb d_Mo_spread_40 (lv_at hl 5 rfl) ?_
              refine mo_ialdN hC hK hM 38 i (by decide) rfl (n := 3375) rfl (by decide) (i := nI i) (rfl) (by omega) (v := nI (qu i)) ((hS.2.1 i (by omega)).2.1) d_Mo_spread_42 ?_
              refine lv_iload hx hb d_Mo_spread_43 (lv_at hl 6 rfl) ?_
              refine st_calli (np := 2) hC (c_Mo_sideOf l (qu i) w (hS.2.1 i (by omega)).1 (by omega)) ⟨wl_Mo_276, wt_Mo_sideOf, wc_Mo_sideOf, wn_Mo⟩ ⟨by decide, by decide, by decide +kernel⟩ ⟨Nat.le_of_ble_eq_true rfl, Nat.le_of_ble_eq_true rfl⟩ hl.1 rfl (rest := []) rfl (Nat.le_of_ble_eq_true rfl) ⟨Nat.zero_le _, Nat.zero_le _⟩ d_Mo_spread_45 (fun rr hrr => ?_)
              replace hrr : rr = iI (sdz (qu i) w) := hrr.trans (sdz_c (qu i) w)
              subst hrr
              refine lv_istore (lv' := [(7, .int (iI (sdz (qu i) w))), (0, .ref (ad 46)), (1, .int (nI first)), (2, .int num), (3, .int (nI ways)), (4, .int (nI mm)), (5, .int (nI i)), (6, .int (nI w))]) hx hb d_Mo_spread_48 hl (by decide) rfl (fun ls hl => ?_)
              refine lv_iload hx hb d_Mo_spread_50 (lv_at hl 0 rfl) ?_
              refine lv_bipush (v := (-4)) hx hb d_Mo_spread_52 (by decide) ?_
              refine zc_eq hx hb (sdz (qu i) w) (-4) (by have := sdz_r (w := w) (hS.2.1 i (by omega)).1; omega) (by have := sdz_r (w := w) (hS.2.1 i (by omega)).1; omega) (by have := sdz_r (w := w) (hS.2.1 i (by omega)).1; omega) (by have := sdz_r (w := w) (hS.2.1 i (by omega)).1; omega) d_Mo_spread_54 (tgt := 105) (by decide) (fun h3 => ?_) (fun h3 => ?_)
              · skip
                refine lv_iinc (v := nI (w + 1)) (lv' := [(6, .int (nI (w + 1))), (7, .int (iI (sdz (qu i) w))), (0, .ref (ad 46)), (1, .int (nI first)), (2, .int num), (3, .int (nI ways)), (4, .int (nI mm)), (5, .int (nI i))]) hx hb d_Mo_spread_105 hl (k := 7) rfl (nI_add w 1) (by decide) rfl (fun ls hl => ?_)
                refine lv_goto (tgt := 30) hx hb d_Mo_spread_108 (by decide) ?_
                exact ih30 (w + 1) mm qu _ _ _ _ _ (by omega) (by omega) (hS) (SPC_next hC9 (fun z => absurd z (sdz_no h3))) (hM) (lv_sub hl [2, 3, 4, 5, 6, 7, 0] rfl)
              · skip
                have hs9 := sdz_ok (hS.2.1 i (by omega)).1 (by assumption)
                rw [show iI (sdz (qu i) w) = nI (sdv (qu i) w) from iI_nI hs9.1] at hl
                refine lv_aload_n hx hb d_Mo_spread_57 rfl (lv_at hl 1 rfl) ?_
                refine mo_getr hC hK hM 37 wf_Mo_72 rfl (by decide) (by decide) d_Mo_spread_58 ?_
                refine lv_iload hx hb d_Mo_spread_61 (lv_at hl 0 rfl) ?_
                refine mo_ialdN hC hK hM 37 (sdv (qu i) w) (by decide) rfl (n := 3375) rfl (by decide) (i := nI (sdv (qu i) w)) (rfl) (by omega) (v := PF (sdv (qu i) w)) (rfl) d_Mo_spread_63 ?_
                refine lv_bipush (v := (-4)) hx hb d_Mo_spread_64 (by decide) ?_
                refine lv_icmp_ne (tgt := 105) hx hb d_Mo_spread_66 (by decide) (fun h4 => ?_) (fun h4 => ?_)
                · skip
                  refine lv_iinc (v := nI (w + 1)) (lv' := [(6, .int (nI (w + 1))), (7, .int (nI (sdv (qu i) w))), (0, .ref (ad 46)), (1, .int (nI first)), (2, .int num), (3, .int (nI ways)), (4, .int (nI mm)), (5, .int (nI i))]) hx hb d_Mo_spread_105 hl (k := 7) rfl (nI_add w 1) (by decide) rfl (fun ls hl => ?_)
                  refine lv_goto (tgt := 30) hx hb d_Mo_spread_108 (by decide) ?_
                  exact ih30 (w + 1) mm qu _ _ _ _ _ (by omega) (by omega) (hS) (SPC_next hC9 (fun _ z => (SPR_in hnum hS).2 h4 z.1)) (hM) (lv_sub hl [2, 3, 4, 5, 6, 7, 0] rfl)
                · skip
                  refine lv_aload_n hx hb d_Mo_spread_69 rfl (lv_at hl 1 rfl) ?_
                  refine mo_getr hC hK hM 33 wf_Mo_59 rfl (by decide) (by decide) d_Mo_spread_70 ?_
                  refine lv_iload hx hb d_Mo_spread_73 (lv_at hl 0 rfl) ?_
                  refine mo_zaldN hC hK hM 33 (sdv (qu i) w) (by decide) rfl (n := 3375) rfl (by decide) (i := nI (sdv (qu i) w)) (rfl) (by omega) (v := (a 33) (sdv (qu i) w)) (rfl) d_Mo_spread_75 ?_
                  refine lv_aload_n hx hb d_Mo_spread_76 rfl (lv_at hl 1 rfl) ?_
                  refine mo_getr hC hK hM 33 wf_Mo_59 rfl (by decide) (by decide) d_Mo_spread_77 ?_
                  refine lv_iload_n hx hb d_Mo_spread_80 rfl (lv_at hl 2 rfl) ?_
                  refine mo_zaldN hC hK hM 33 first (by decide) rfl (n := 3375) rfl (by decide) (i := nI first) (rfl) (by omega) (v := (a 33) first) (rfl) d_Mo_spread_81 ?_
                  refine lv_icmp_ne (tgt := 105) hx hb d_Mo_spread_82 (by decide) (fun h5 => ?_) (fun h5 => ?_)
                  · skip
                    refine lv_iinc (v := nI (w + 1)) (lv' := [(6, .int (nI (w + 1))), (7, .int (nI (sdv (qu i) w))), (0, .ref (ad 46)), (1, .int (nI first)), (2, .int num), (3, .int (nI ways)), (4, .int (nI mm)), (5, .int (nI i))]) hx hb d_Mo_spread_105 hl (k := 7) rfl (nI_add w 1) (by decide) rfl (fun ls hl => ?_)
                    refine lv_goto (tgt := 30) hx hb d_Mo_spread_108 (by decide) ?_
                    exact ih30 (w + 1) mm qu _ _ _ _ _ (by omega) (by omega) (hS) (SPC_next hC9 (fun _ z => absurd z.2 h5)) (hM) (lv_sub hl [2, 3, 4, 5, 6, 7, 0] rfl)
                  · skip
                    refine lv_aload_n hx hb d_Mo_spread_85 rfl (lv_at hl 1 rfl) ?_
                    refine mo_getr hC hK hM 37 wf_Mo_72 rfl (by decide) (by decide) d_Mo_spread_86 ?_
                    refine lv_iload hx hb d_Mo_spread_89 (lv_at hl 0 rfl) ?_
                    refine lv_iload_n hx hb d_Mo_spread_91 rfl (lv_at hl 3 rfl) ?_
                    refine mo_iastN hC hK hM 37 (sdv (qu i) w) (by decide) rfl (n := 3375) rfl (by decide) (i := nI (sdv (qu i) w)) (x := num) (rfl) (by omega) d_Mo_spread_92 (fun H locs hM => ?_)
                    rw [bx_uu] at hM
                    replace hM : MO D cT ad I J (va_up (va_up a 38 RF) 37 (upd PF (sdv (qu i) w) num)) g s.heap H locs := hM
                    have hm9 := SPR_m (SPR_push hS hs9.2 ((SPR_in hnum hS).1 (by assumption)).1 (clo_s (hS.2.1 i (by omega)).2.2 (by omega) hs9.2 ⟨((SPR_in hnum hS).1 (by assumption)).2, by assumption⟩))
                    refine lv_aload_n hx hb d_Mo_spread_93 rfl (lv_at hl 1 rfl) ?_
                    refine mo_getr hC hK hM 38 wf_Mo_75 rfl (by decide) (by decide) d_Mo_spread_94 ?_
                    refine lv_iload hx hb d_Mo_spread_97 (lv_at hl 5 rfl) ?_
                    refine lv_iload hx hb d_Mo_spread_99 (lv_at hl 0 rfl) ?_
                    refine mo_iastN hC hK hM 38 mm (by decide) rfl (n := 3375) rfl (by decide) (i := nI mm) (x := nI (sdv (qu i) w)) (rfl) (by omega) d_Mo_spread_101 (fun H locs hM => ?_)
                    rw [up_swap (i := 37) (j := 38) (by decide), bx_uu] at hM
                    replace hM : MO D cT ad I J (va_up (va_up a 38 (upd RF mm (nI (sdv (qu i) w)))) 37 (upd PF (sdv (qu i) w) num)) g s.heap H locs := hM
                    refine lv_iinc (v := nI (mm + 1)) (lv' := [(4, .int (nI (mm + 1))), (7, .int (nI (sdv (qu i) w))), (0, .ref (ad 46)), (1, .int (nI first)), (2, .int num), (3, .int (nI ways)), (5, .int (nI i)), (6, .int (nI w))]) hx hb d_Mo_spread_102 hl (k := 5) rfl (nI_add mm 1) (by decide) rfl (fun ls hl => ?_)
                    refine lv_iinc (v := nI (w + 1)) (lv' := [(6, .int (nI (w + 1))), (4, .int (nI (mm + 1))), (7, .int (nI (sdv (qu i) w))), (0, .ref (ad 46)), (1, .int (nI first)), (2, .int num), (3, .int (nI ways)), (5, .int (nI i))]) hx hb d_Mo_spread_105 hl (k := 7) rfl (nI_add w 1) (by decide) rfl (fun ls hl => ?_)
                    refine lv_goto (tgt := 30) hx hb d_Mo_spread_108 (by decide) ?_
                    have hS2 := SPR_push hS hs9.2 ((SPR_in hnum hS).1 h4).1 (clo_s (hS.2.1 i (by omega)).2.2 (by omega) hs9.2 ⟨((SPR_in hnum hS).1 h4).2, h5⟩)
                    exact ih30 (w + 1) (mm + 1) (va_up qu mm (sdv (qu i) w)) _ _ _ _ _ (by omega) (by have := SPR_m hS2; omega) (hS2) (SPC_next (SPC_push (by omega) hC9) (fun _ _ => ⟨mm, by omega, by rw [va_up_self, va_up_ne _ _ (by omega)]⟩)) (hM) (lv_sub hl [3, 4, 5, 6, 1, 7, 0] rfl)
        exact hL30 _ 0 mm qu _ _ _ _ _ (Nat.lt_succ_self _) (by omega) (hS) (hC9) (hM) (lv_sub hl [1, 2, 3, 4, 5, 6, 0] rfl)
  exact hL20 _ 0 1 (fun _ => first) _ _ _ _ _ (Nat.lt_succ_self _) (by omega) (SPR_1 hf) (fun i w hh => by omega) (hM) (lv_sub hl [2, 3, 4, 5, 1, 0] rfl)
