/-! the class: its public methods over a body's points -/
section CNG
variable {f g f2 g2 : Nat → Int32}
theorem siz_c (h : ∀ q, q < 225 → f q = g q) : siz f = siz g := by unfold siz slS; rw [rwA_cong h]
theorem slS_c {z : Int} (h : ∀ q, q < 225 → f q = g q) : slS f z = slS g z := by unfold slS; rw [rwA_cong h]
theorem olR_c {z : Int} (h : ∀ q, q < 225 → f q = g q) : olR f z = olR g z := by funext j; unfold olR olX olY; rw [rwA_cong h]
theorem sqT_c (h : ∀ q, q < 225 → f q = g q) : sqT f = sqT g := by funext k; unfold sqT; rw [olR_c h]; congr 2; funext j; unfold sqR; rw [rwA_cong h]
theorem edR_c {o : Int32} {z : Int} (h : ∀ q, q < 225 → f q = g q) : edR f o z = edR g o z := by funext j; unfold edR ed1 ed2 ed3; rw [rwA_cong h]
theorem coR_c {z : Int} (h : ∀ q, q < 225 → f q = g q) : coR f z = coR g z := by funext j; unfold coR coN; rw [rwA_cong h]
theorem thR_c {o : Int32} {z : Int} (h : ∀ q, q < 225 → f q = g q) : thR f o z = thR g o z := by funext j; unfold thR thN; rw [rwA_cong h]
theorem hgR_c {z : Int} (h : ∀ q, q < 225 → f q = g q) : hgR f z = hgR g z := by funext j; unfold hgR; rw [rwA_cong h]
theorem shR_c {z : Int} (h : ∀ q, q < 225 → f q = g q) (h2 : ∀ q, q < 225 → f2 q = g2 q) : shR f f2 z = shR g g2 z := by funext j; unfold shR; rw [rwA_cong h, rwA_cong h2]
end CNG
def edS (V : Nat → Bool) (o : Int32) : Nat := sm (fun k => sm (edR (rwI V) o ((↑k : Int) - 8)) 16) 16
def coS (V : Nat → Bool) : Nat := sm (fun k => sm (coR (rwI V) ((↑k : Int) - 8)) 16) 16
def thS (V : Nat → Bool) (o : Int32) : Nat := sm (fun k => sm (thR (rwI V) o ((↑k : Int) - 7)) 15) 15
def hgS (V : Nat → Bool) (z : Int) : Nat := sm (fun k => sm (hgR (rwI V) (z + 1 + (↑k : Int))) 15) (7 - z).toNat
def boS (V V2 : Nat → Bool) : Nat := sm (fun k => sm (shR (rwI V) (rwI V2) ((↑k : Int) - 7)) 15) 15
def ptR (f : Nat → Int32) (i0 : Nat) (what r : Int32) : Prop := (sm (rC f) 225 ≤ i0 ∧ r = -100) ∨ ∃ q i : Nat, q < 225 ∧ i < 16 ∧ bt (f q) i = true ∧ sm (rC f) q + cn (bt (f q)) i = i0 ∧ r = if what = 0 then iI ((↑i : Int) - 8) else if what = 1 then iI ((↑(q % 15) : Int) - 7) else iI ((↑(q / 15) : Int) - 7)
theorem ptR_c {f g : Nat → Int32} (h : ∀ q, q < 225 → f q = g q) {i0 : Nat} {what r : Int32} (hp : ptR f i0 what r) : ptR g i0 what r := by
  have e : ∀ n, n ≤ 225 → sm (rC f) n = sm (rC g) n := fun n hn => sm_cong (fun j hj => by unfold rC; rw [h j (by omega)])
  rcases hp with ⟨h1, h2⟩ | ⟨q, i, h1, h2, h3, h4, h5⟩
  · exact Or.inl ⟨by rw [← e 225 (by omega)]; exact h1, h2⟩
  · exact Or.inr ⟨q, i, h1, h2, by rw [← h q h1]; exact h3, by rw [← e q (by omega), ← h q h1]; exact h4, h5⟩
set_option maxHeartbeats 400000 in
set_option maxRecDepth 100000 in
theorem c_So_volume_y (l : Launch) (D : va_G) (cT : Nat → ClassId) (X : CX) (I : Nat → Int32) (a : Nat → Nat → Int32) (b : Nat) (nb : Nat) (T : Nat → TX) (tl : Nat) (tb : Nat → Nat) (ft : Int32) (la : Nat → Int32) (szz : Nat → Nat) (ce : Nat → Nat → Int32) (hCI : CI X I a nb T tl tb ft la szz ce) (hbb : b < nb) : CMi l D cT X y_So_volume b_So_volume 3 (some .int) 26 865 [.ref (X.1 0), .int (nI b)] I a (fun r u => (r = nI (siz (rwI (VF (T b))))) ∧ CI X u.1 u.2 nb T tl tb ft la szz ce) := by
  refine co_enti (own := R_So) (by decide) rfl (Nat.le_of_ble_eq_true rfl) ?_
  intro p e s m args below meth c Q hC hK hM hret ls hl
  have hx := hC.1
  have hb := hC.2.1
  replace hl : lv_has ls 3 [(0, .ref (X.1 0)), (1, .int (nI b))] := hl
  refine lv_aload_n hx hb d_So_volume_0 rfl (lv_at hl 0 rfl) ?_
  refine lv_iload_n hx hb d_So_volume_1 rfl (lv_at hl 1 rfl) ?_
  refine co_callq (np := 1) hC hK hM (k := 0) (by omega) (cE_0) rfl (c_So_paintedBody_y l D cT X I a b nb T tl tb ft la szz ce hCI hbb) rfl ⟨wl_So_113, wi_So_paintedBody, ws_So_paintedBody, wc_So_paintedBody, wn_So⟩ ⟨by decide, by decide, by decide +kernel⟩ ⟨Nat.le_of_ble_eq_true rfl, Nat.le_of_ble_eq_true rfl⟩ hl.1 rfl (rest := []) rfl (Nat.le_of_ble_eq_true rfl) ⟨Nat.zero_le _, Nat.zero_le _⟩ d_So_volume_2 (fun rr1 I1 a1 H locs hp1 hM => ?_)
  obtain ⟨ho1, hCI, hRW1, hKP1⟩ := hp1
  subst ho1
  replace hCI : CI X I1 a1 nb T tl tb ft la szz ce := hCI
  replace hRW1 : ∀ q, q < 225 → a1 (18 + 3 * b + 1) q = rwI (VF (T b)) q := hRW1
  have hbn1 : b < X.2.2.2.1 := by rw [hCI.1.2.1]; omega
  have hlo1 : ∀ q, q < 225 → lo16 (a1 (18 + 3 * b + 1) q) := fun q hq => by rw [hRW1 q hq]; exact lo_rwI
  refine lv_astore_n (lv' := [(2, .ref (X.1 (18 + 3 * b))), (0, .ref (X.1 0)), (1, .int (nI b))]) hx hb d_So_volume_5 rfl hl (by decide) rfl (fun ls hl => ?_)
  refine lv_aload_n hx hb d_So_volume_6 rfl (lv_at hl 0 rfl) ?_
  refine lv_ifnonnull (tgt := 14) hx hb d_So_volume_7 (by decide) ?_
  refine lv_aload_n hx hb d_So_volume_14 rfl (lv_at hl 0 rfl) ?_
  refine rd_call (np := 0) hC hK hM.1 (cw_he (by omega) (cE_B b)) rfl (c_Bo_size l D cT X I1 a1 b hbn1 hlo1) rfl ⟨wl_So_116, wi_Bo_size, ws_Bo_size, wc_Bo_size, wn_Bo⟩ ⟨by decide, by decide, by decide +kernel⟩ ⟨Nat.le_of_ble_eq_true rfl, Nat.le_of_ble_eq_true rfl⟩ hl.1 rfl (rest := []) rfl (Nat.le_of_ble_eq_true rfl) ⟨Nat.zero_le _, Nat.zero_le _⟩ d_So_volume_15 (fun rr hrr => ?_)
  replace hrr : rr = nI (siz (rwI (VF (T b)))) := hrr.trans (congrArg nI (siz_c hRW1))
  subst hrr
  exact hret _ _ _ _ _ _ _ d_So_volume_18 hM (⟨rfl, hCI⟩)
set_option maxHeartbeats 400000 in
set_option maxRecDepth 100000 in
theorem c_So_volume_n (l : Launch) (D : va_G) (cT : Nat → ClassId) (X : CX) (I : Nat → Int32) (a : Nat → Nat → Int32) (b : Int32) (nb : Nat) (T : Nat → TX) (tl : Nat) (tb : Nat → Nat) (ft : Int32) (la : Nat → Int32) (szz : Nat → Nat) (ce : Nat → Nat → Int32) (hCI : CI X I a nb T tl tb ft la szz ce) (hbb : ¬ (0 ≤ b.toInt ∧ b.toInt < nb)) : CMi l D cT X y_So_volume b_So_volume 3 (some .int) 26 865 [.ref (X.1 0), .int b] I a (fun r u => r = -1 ∧ u = (I, a)) := by
  refine co_enti (own := R_So) (by decide) rfl (Nat.le_of_ble_eq_true rfl) ?_
  intro p e s m args below meth c Q hC hK hM hret ls hl
  have hx := hC.1
  have hb := hC.2.1
  replace hl : lv_has ls 3 [(0, .ref (X.1 0)), (1, .int b)] := hl
  refine lv_aload_n hx hb d_So_volume_0 rfl (lv_at hl 0 rfl) ?_
  refine lv_iload_n hx hb d_So_volume_1 rfl (lv_at hl 1 rfl) ?_
  refine co_callq (np := 1) hC hK hM (k := 0) (by omega) (cE_0) rfl (c_So_paintedBody_n l D cT X I a b nb T tl tb ft la szz ce hCI hbb) rfl ⟨wl_So_113, wi_So_paintedBody, ws_So_paintedBody, wc_So_paintedBody, wn_So⟩ ⟨by decide, by decide, by decide +kernel⟩ ⟨Nat.le_of_ble_eq_true rfl, Nat.le_of_ble_eq_true rfl⟩ hl.1 rfl (rest := []) rfl (Nat.le_of_ble_eq_true rfl) ⟨Nat.zero_le _, Nat.zero_le _⟩ d_So_volume_2 (fun rr1 I1 a1 H locs hp1 hM => ?_)
  obtain ⟨hr1, hp1⟩ := hp1
  cases hp1
  subst hr1
  refine lv_astore_nN (lv' := [(2, .null), (0, .ref (X.1 0)), (1, .int b)]) hx hb d_So_volume_5 rfl hl (by decide) rfl (fun ls hl => ?_)
  refine lv_aload_nN hx hb d_So_volume_6 rfl (lv_at hl 0 rfl) ?_
  refine lv_ifnonnullN hx hb d_So_volume_7 ?_
  refine lv_iconst (v := (-1)) hx hb d_So_volume_10 (by decide) ?_
  refine lv_goto (tgt := 18) hx hb d_So_volume_11 (by decide) ?_
  exact hret _ _ _ _ _ _ _ d_So_volume_18 hM (⟨rfl, rfl⟩)
set_option maxHeartbeats 400000 in
set_option maxRecDepth 100000 in
theorem c_So_thin_y (l : Launch) (D : va_G) (cT : Nat → ClassId) (X : CX) (I : Nat → Int32) (a : Nat → Nat → Int32) (b : Nat) (way : Int32) (nb : Nat) (T : Nat → TX) (tl : Nat) (tb : Nat → Nat) (ft : Int32) (la : Nat → Int32) (szz : Nat → Nat) (ce : Nat → Nat → Int32) (hCI : CI X I a nb T tl tb ft la szz ce) (hbb : b < nb) : CMi l D cT X y_So_thin b_So_thin 4 (some .int) 26 865 [.ref (X.1 0), .int (nI b), .int way] I a (fun r u => (r = if 0 ≤ way.toInt ∧ way.toInt ≤ 2 then nI (thS (VF (T b)) way) else -1) ∧ CI X u.1 u.2 nb T tl tb ft la szz ce) := by
  refine co_enti (own := R_So) (by decide) rfl (Nat.le_of_ble_eq_true rfl) ?_
  intro p e s m args below meth c Q hC hK hM hret ls hl
  have hx := hC.1
  have hb := hC.2.1
  replace hl : lv_has ls 4 [(0, .ref (X.1 0)), (1, .int (nI b)), (2, .int way)] := hl
  refine lv_aload_n hx hb d_So_thin_0 rfl (lv_at hl 0 rfl) ?_
  refine lv_iload_n hx hb d_So_thin_1 rfl (lv_at hl 1 rfl) ?_
  refine co_callq (np := 1) hC hK hM (k := 0) (by omega) (cE_0) rfl (c_So_paintedBody_y l D cT X I a b nb T tl tb ft la szz ce hCI hbb) rfl ⟨wl_So_113, wi_So_paintedBody, ws_So_paintedBody, wc_So_paintedBody, wn_So⟩ ⟨by decide, by decide, by decide +kernel⟩ ⟨Nat.le_of_ble_eq_true rfl, Nat.le_of_ble_eq_true rfl⟩ hl.1 rfl (rest := []) rfl (Nat.le_of_ble_eq_true rfl) ⟨Nat.zero_le _, Nat.zero_le _⟩ d_So_thin_2 (fun rr1 I1 a1 H locs hp1 hM => ?_)
  obtain ⟨ho1, hCI, hRW1, hKP1⟩ := hp1
  subst ho1
  replace hCI : CI X I1 a1 nb T tl tb ft la szz ce := hCI
  replace hRW1 : ∀ q, q < 225 → a1 (18 + 3 * b + 1) q = rwI (VF (T b)) q := hRW1
  have hbn1 : b < X.2.2.2.1 := by rw [hCI.1.2.1]; omega
  have hlo1 : ∀ q, q < 225 → lo16 (a1 (18 + 3 * b + 1) q) := fun q hq => by rw [hRW1 q hq]; exact lo_rwI
  refine lv_astore_n (lv' := [(3, .ref (X.1 (18 + 3 * b))), (0, .ref (X.1 0)), (1, .int (nI b)), (2, .int way)]) hx hb d_So_thin_5 rfl hl (by decide) rfl (fun ls hl => ?_)
  refine lv_aload_n hx hb d_So_thin_6 rfl (lv_at hl 0 rfl) ?_
  refine lv_ifnull hx hb d_So_thin_7 ?_
  refine lv_iload_n hx hb d_So_thin_10 rfl (lv_at hl 3 rfl) ?_
  refine lv_iconst (v := 0) hx hb d_So_thin_11 (by decide) ?_
  refine lv_iconst (v := 2) hx hb d_So_thin_12 (by decide) ?_
  refine st_calli (np := 3) hC (c_So_isBetween l way 0 2 way.toInt 0 2 rfl rfl rfl) ⟨wl_So_106, wt_So_isBetween, wc_So_isBetween, wn_So⟩ ⟨by decide, by decide, by decide +kernel⟩ ⟨Nat.le_of_ble_eq_true rfl, Nat.le_of_ble_eq_true rfl⟩ hl.1 rfl (rest := []) rfl (Nat.le_of_ble_eq_true rfl) ⟨Nat.zero_le _, Nat.zero_le _⟩ d_So_thin_13 (fun rr hrr => ?_)
  subst hrr
  refine bz_ne (tgt := 23) hx hb d_So_thin_16 (by decide) (fun h2 => ?_) (fun h2 => ?_)
  · skip
    refine lv_aload_n hx hb d_So_thin_23 rfl (lv_at hl 0 rfl) ?_
    refine lv_iload_n hx hb d_So_thin_24 rfl (lv_at hl 3 rfl) ?_
    refine rd_call (np := 1) hC hK hM.1 (cw_he (by omega) (cE_B b)) rfl (c_Bo_thinPoints l D cT X I1 a1 b way hbn1 hlo1) rfl ⟨wl_So_166, wi_Bo_thinPoints, ws_Bo_thinPoints, wc_Bo_thinPoints, wn_Bo⟩ ⟨by decide, by decide, by decide +kernel⟩ ⟨Nat.le_of_ble_eq_true rfl, Nat.le_of_ble_eq_true rfl⟩ hl.1 rfl (rest := []) rfl (Nat.le_of_ble_eq_true rfl) ⟨Nat.zero_le _, Nat.zero_le _⟩ d_So_thin_25 (fun rr hrr => ?_)
    replace hrr : rr = nI (thS (VF (T b)) way) := hrr.trans (by unfold thS; simp only [thR_c hRW1])
    subst hrr
    exact hret _ _ _ _ _ _ _ d_So_thin_28 hM (⟨by rw [if_pos (by omega)], hCI⟩)
  · skip
    refine lv_iconst (v := (-1)) hx hb d_So_thin_19 (by decide) ?_
    refine lv_goto (tgt := 28) hx hb d_So_thin_20 (by decide) ?_
    exact hret _ _ _ _ _ _ _ d_So_thin_28 hM (⟨by rw [if_neg (by omega)], hCI⟩)
set_option maxHeartbeats 400000 in
set_option maxRecDepth 100000 in
theorem c_So_thin_n (l : Launch) (D : va_G) (cT : Nat → ClassId) (X : CX) (I : Nat → Int32) (a : Nat → Nat → Int32) (b : Int32) (way : Int32) (nb : Nat) (T : Nat → TX) (tl : Nat) (tb : Nat → Nat) (ft : Int32) (la : Nat → Int32) (szz : Nat → Nat) (ce : Nat → Nat → Int32) (hCI : CI X I a nb T tl tb ft la szz ce) (hbb : ¬ (0 ≤ b.toInt ∧ b.toInt < nb)) : CMi l D cT X y_So_thin b_So_thin 4 (some .int) 26 865 [.ref (X.1 0), .int b, .int way] I a (fun r u => r = -1 ∧ u = (I, a)) := by
  refine co_enti (own := R_So) (by decide) rfl (Nat.le_of_ble_eq_true rfl) ?_
  intro p e s m args below meth c Q hC hK hM hret ls hl
  have hx := hC.1
  have hb := hC.2.1
  replace hl : lv_has ls 4 [(0, .ref (X.1 0)), (1, .int b), (2, .int way)] := hl
  refine lv_aload_n hx hb d_So_thin_0 rfl (lv_at hl 0 rfl) ?_
  refine lv_iload_n hx hb d_So_thin_1 rfl (lv_at hl 1 rfl) ?_
  refine co_callq (np := 1) hC hK hM (k := 0) (by omega) (cE_0) rfl (c_So_paintedBody_n l D cT X I a b nb T tl tb ft la szz ce hCI hbb) rfl ⟨wl_So_113, wi_So_paintedBody, ws_So_paintedBody, wc_So_paintedBody, wn_So⟩ ⟨by decide, by decide, by decide +kernel⟩ ⟨Nat.le_of_ble_eq_true rfl, Nat.le_of_ble_eq_true rfl⟩ hl.1 rfl (rest := []) rfl (Nat.le_of_ble_eq_true rfl) ⟨Nat.zero_le _, Nat.zero_le _⟩ d_So_thin_2 (fun rr1 I1 a1 H locs hp1 hM => ?_)
  obtain ⟨hr1, hp1⟩ := hp1
  cases hp1
  subst hr1
  refine lv_astore_nN (lv' := [(3, .null), (0, .ref (X.1 0)), (1, .int b), (2, .int way)]) hx hb d_So_thin_5 rfl hl (by decide) rfl (fun ls hl => ?_)
  refine lv_aload_nN hx hb d_So_thin_6 rfl (lv_at hl 0 rfl) ?_
  refine lv_ifnullN (tgt := 19) hx hb d_So_thin_7 (by decide) ?_
  refine lv_iconst (v := (-1)) hx hb d_So_thin_19 (by decide) ?_
  refine lv_goto (tgt := 28) hx hb d_So_thin_20 (by decide) ?_
  exact hret _ _ _ _ _ _ _ d_So_thin_28 hM (⟨rfl, rfl⟩)
set_option maxHeartbeats 400000 in
set_option maxRecDepth 100000 in
theorem c_So_overhang_y (l : Launch) (D : va_G) (cT : Nat → ClassId) (X : CX) (I : Nat → Int32) (a : Nat → Nat → Int32) (b : Nat) (z : Int32) (nb : Nat) (T : Nat → TX) (tl : Nat) (tb : Nat → Nat) (ft : Int32) (la : Nat → Int32) (szz : Nat → Nat) (ce : Nat → Nat → Int32) (hCI : CI X I a nb T tl tb ft la szz ce) (hbb : b < nb) : CMi l D cT X y_So_overhang b_So_overhang 4 (some .int) 26 865 [.ref (X.1 0), .int (nI b), .int z] I a (fun r u => (r = if -7 ≤ z.toInt ∧ z.toInt ≤ 7 then nI (hgS (VF (T b)) z.toInt) else -1) ∧ CI X u.1 u.2 nb T tl tb ft la szz ce) := by
  refine co_enti (own := R_So) (by decide) rfl (Nat.le_of_ble_eq_true rfl) ?_
  intro p e s m args below meth c Q hC hK hM hret ls hl
  have hx := hC.1
  have hb := hC.2.1
  replace hl : lv_has ls 4 [(0, .ref (X.1 0)), (1, .int (nI b)), (2, .int z)] := hl
  refine lv_aload_n hx hb d_So_overhang_0 rfl (lv_at hl 0 rfl) ?_
  refine lv_iload_n hx hb d_So_overhang_1 rfl (lv_at hl 1 rfl) ?_
  refine co_callq (np := 1) hC hK hM (k := 0) (by omega) (cE_0) rfl (c_So_paintedBody_y l D cT X I a b nb T tl tb ft la szz ce hCI hbb) rfl ⟨wl_So_113, wi_So_paintedBody, ws_So_paintedBody, wc_So_paintedBody, wn_So⟩ ⟨by decide, by decide, by decide +kernel⟩ ⟨Nat.le_of_ble_eq_true rfl, Nat.le_of_ble_eq_true rfl⟩ hl.1 rfl (rest := []) rfl (Nat.le_of_ble_eq_true rfl) ⟨Nat.zero_le _, Nat.zero_le _⟩ d_So_overhang_2 (fun rr1 I1 a1 H locs hp1 hM => ?_)
  obtain ⟨ho1, hCI, hRW1, hKP1⟩ := hp1
  subst ho1
  replace hCI : CI X I1 a1 nb T tl tb ft la szz ce := hCI
  replace hRW1 : ∀ q, q < 225 → a1 (18 + 3 * b + 1) q = rwI (VF (T b)) q := hRW1
  have hbn1 : b < X.2.2.2.1 := by rw [hCI.1.2.1]; omega
  have hlo1 : ∀ q, q < 225 → lo16 (a1 (18 + 3 * b + 1) q) := fun q hq => by rw [hRW1 q hq]; exact lo_rwI
  refine lv_astore_n (lv' := [(3, .ref (X.1 (18 + 3 * b))), (0, .ref (X.1 0)), (1, .int (nI b)), (2, .int z)]) hx hb d_So_overhang_5 rfl hl (by decide) rfl (fun ls hl => ?_)
  refine lv_aload_n hx hb d_So_overhang_6 rfl (lv_at hl 0 rfl) ?_
  refine lv_ifnull hx hb d_So_overhang_7 ?_
  refine lv_iload_n hx hb d_So_overhang_10 rfl (lv_at hl 3 rfl) ?_
  refine lv_bipush (v := 7) hx hb d_So_overhang_11 (by decide) ?_
  refine st_calli (np := 2) hC (c_So_isNear l z 7 z.toInt (rfl) (by omega) (by omega)) ⟨wl_So_83, wt_So_isNear, wc_So_isNear, wn_So⟩ ⟨by decide, by decide, by decide +kernel⟩ ⟨Nat.le_of_ble_eq_true rfl, Nat.le_of_ble_eq_true rfl⟩ hl.1 rfl (rest := []) rfl (Nat.le_of_ble_eq_true rfl) ⟨Nat.zero_le _, Nat.zero_le _⟩ d_So_overhang_13 (fun rr hrr => ?_)
  subst hrr
  refine bz_ne (tgt := 23) hx hb d_So_overhang_16 (by decide) (fun h2 => ?_) (fun h2 => ?_)
  · skip
    rw [iI_of z] at hl
    refine lv_aload_n hx hb d_So_overhang_23 rfl (lv_at hl 0 rfl) ?_
    refine lv_iload_n hx hb d_So_overhang_24 rfl (lv_at hl 3 rfl) ?_
    refine rd_call (np := 1) hC hK hM.1 (cw_he (by omega) (cE_B b)) rfl (c_Bo_hangingPoints l D cT X I1 a1 b z.toInt hbn1 hlo1 (by omega) (by omega)) rfl ⟨wl_So_169, wi_Bo_hangingPoints, ws_Bo_hangingPoints, wc_Bo_hangingPoints, wn_Bo⟩ ⟨by decide, by decide, by decide +kernel⟩ ⟨Nat.le_of_ble_eq_true rfl, Nat.le_of_ble_eq_true rfl⟩ hl.1 rfl (rest := []) rfl (Nat.le_of_ble_eq_true rfl) ⟨Nat.zero_le _, Nat.zero_le _⟩ d_So_overhang_25 (fun rr hrr => ?_)
    replace hrr : rr = nI (hgS (VF (T b)) z.toInt) := hrr.trans (by unfold hgS; simp only [hgR_c hRW1])
    subst hrr
    exact hret _ _ _ _ _ _ _ d_So_overhang_28 hM (⟨by rw [if_pos (by omega)], hCI⟩)
  · skip
    refine lv_iconst (v := (-1)) hx hb d_So_overhang_19 (by decide) ?_
    refine lv_goto (tgt := 28) hx hb d_So_overhang_20 (by decide) ?_
    exact hret _ _ _ _ _ _ _ d_So_overhang_28 hM (⟨by rw [if_neg (by omega)], hCI⟩)
set_option maxHeartbeats 400000 in
set_option maxRecDepth 100000 in
theorem c_So_overhang_n (l : Launch) (D : va_G) (cT : Nat → ClassId) (X : CX) (I : Nat → Int32) (a : Nat → Nat → Int32) (b : Int32) (z : Int32) (nb : Nat) (T : Nat → TX) (tl : Nat) (tb : Nat → Nat) (ft : Int32) (la : Nat → Int32) (szz : Nat → Nat) (ce : Nat → Nat → Int32) (hCI : CI X I a nb T tl tb ft la szz ce) (hbb : ¬ (0 ≤ b.toInt ∧ b.toInt < nb)) : CMi l D cT X y_So_overhang b_So_overhang 4 (some .int) 26 865 [.ref (X.1 0), .int b, .int z] I a (fun r u => r = -1 ∧ u = (I, a)) := by
  refine co_enti (own := R_So) (by decide) rfl (Nat.le_of_ble_eq_true rfl) ?_
  intro p e s m args below meth c Q hC hK hM hret ls hl
  have hx := hC.1
  have hb := hC.2.1
  replace hl : lv_has ls 4 [(0, .ref (X.1 0)), (1, .int b), (2, .int z)] := hl
  refine lv_aload_n hx hb d_So_overhang_0 rfl (lv_at hl 0 rfl) ?_
  refine lv_iload_n hx hb d_So_overhang_1 rfl (lv_at hl 1 rfl) ?_
  refine co_callq (np := 1) hC hK hM (k := 0) (by omega) (cE_0) rfl (c_So_paintedBody_n l D cT X I a b nb T tl tb ft la szz ce hCI hbb) rfl ⟨wl_So_113, wi_So_paintedBody, ws_So_paintedBody, wc_So_paintedBody, wn_So⟩ ⟨by decide, by decide, by decide +kernel⟩ ⟨Nat.le_of_ble_eq_true rfl, Nat.le_of_ble_eq_true rfl⟩ hl.1 rfl (rest := []) rfl (Nat.le_of_ble_eq_true rfl) ⟨Nat.zero_le _, Nat.zero_le _⟩ d_So_overhang_2 (fun rr1 I1 a1 H locs hp1 hM => ?_)
  obtain ⟨hr1, hp1⟩ := hp1
  cases hp1
  subst hr1
  refine lv_astore_nN (lv' := [(3, .null), (0, .ref (X.1 0)), (1, .int b), (2, .int z)]) hx hb d_So_overhang_5 rfl hl (by decide) rfl (fun ls hl => ?_)
  refine lv_aload_nN hx hb d_So_overhang_6 rfl (lv_at hl 0 rfl) ?_
  refine lv_ifnullN (tgt := 19) hx hb d_So_overhang_7 (by decide) ?_
  refine lv_iconst (v := (-1)) hx hb d_So_overhang_19 (by decide) ?_
  refine lv_goto (tgt := 28) hx hb d_So_overhang_20 (by decide) ?_
  exact hret _ _ _ _ _ _ _ d_So_overhang_28 hM (⟨rfl, rfl⟩)
set_option maxHeartbeats 400000 in
set_option maxRecDepth 100000 in
theorem c_So_point_y (l : Launch) (D : va_G) (cT : Nat → ClassId) (X : CX) (I : Nat → Int32) (a : Nat → Nat → Int32) (b : Nat) (i : Int32) (what : Int32) (nb : Nat) (T : Nat → TX) (tl : Nat) (tb : Nat → Nat) (ft : Int32) (la : Nat → Int32) (szz : Nat → Nat) (ce : Nat → Nat → Int32) (hCI : CI X I a nb T tl tb ft la szz ce) (hbb : b < nb) : CMi l D cT X y_So_point b_So_point 5 (some .int) 26 865 [.ref (X.1 0), .int (nI b), .int i, .int what] I a (fun r u => (if 0 ≤ i.toInt ∧ 0 ≤ what.toInt ∧ what.toInt ≤ 2 then ptR (rwI (VF (T b))) i.toInt.toNat what r else r = -100) ∧ CI X u.1 u.2 nb T tl tb ft la szz ce) := by
  refine co_enti (own := R_So) (by decide) rfl (Nat.le_of_ble_eq_true rfl) ?_
  intro p e s m args below meth c Q hC hK hM hret ls hl
  have hx := hC.1
  have hb := hC.2.1
  replace hl : lv_has ls 5 [(0, .ref (X.1 0)), (1, .int (nI b)), (2, .int i), (3, .int what)] := hl
  refine lv_aload_n hx hb d_So_point_0 rfl (lv_at hl 0 rfl) ?_
  refine lv_iload_n hx hb d_So_point_1 rfl (lv_at hl 1 rfl) ?_
  refine co_callq (np := 1) hC hK hM (k := 0) (by omega) (cE_0) rfl (c_So_paintedBody_y l D cT X I a b nb T tl tb ft la szz ce hCI hbb) rfl ⟨wl_So_113, wi_So_paintedBody, ws_So_paintedBody, wc_So_paintedBody, wn_So⟩ ⟨by decide, by decide, by decide +kernel⟩ ⟨Nat.le_of_ble_eq_true rfl, Nat.le_of_ble_eq_true rfl⟩ hl.1 rfl (rest := []) rfl (Nat.le_of_ble_eq_true rfl) ⟨Nat.zero_le _, Nat.zero_le _⟩ d_So_point_2 (fun rr1 I1 a1 H locs hp1 hM => ?_)
  obtain ⟨ho1, hCI, hRW1, hKP1⟩ := hp1
  subst ho1
  replace hCI : CI X I1 a1 nb T tl tb ft la szz ce := hCI
  replace hRW1 : ∀ q, q < 225 → a1 (18 + 3 * b + 1) q = rwI (VF (T b)) q := hRW1
  have hbn1 : b < X.2.2.2.1 := by rw [hCI.1.2.1]; omega
  have hlo1 : ∀ q, q < 225 → lo16 (a1 (18 + 3 * b + 1) q) := fun q hq => by rw [hRW1 q hq]; exact lo_rwI
  refine lv_astore (lv' := [(4, .ref (X.1 (18 + 3 * b))), (0, .ref (X.1 0)), (1, .int (nI b)), (2, .int i), (3, .int what)]) hx hb d_So_point_5 hl (by decide) rfl (fun ls hl => ?_)
  refine lv_aload hx hb d_So_point_7 (lv_at hl 0 rfl) ?_
  refine lv_ifnull hx hb d_So_point_9 ?_
  refine lv_iload_n hx hb d_So_point_12 rfl (lv_at hl 3 rfl) ?_
  refine yz_lt hx hb i.toInt (rfl) d_So_point_13 (tgt := 25) (by decide) (fun h2 => ?_) (fun h2 => ?_)
  · skip
    refine lv_bipush (v := (-100)) hx hb d_So_point_25 (by decide) ?_
    refine lv_goto (tgt := 37) hx hb d_So_point_27 (by decide) ?_
    refine hret _ _ _ _ _ _ _ d_So_point_37 hM ?_
    refine ⟨?_, hCI⟩
    rw [if_neg (by omega)]
  · skip
    refine lv_iload_n hx hb d_So_point_16 rfl (lv_at hl 4 rfl) ?_
    refine lv_iconst (v := 0) hx hb d_So_point_17 (by decide) ?_
    refine lv_iconst (v := 2) hx hb d_So_point_18 (by decide) ?_
    refine st_calli (np := 3) hC (c_So_isBetween l what 0 2 what.toInt 0 2 rfl rfl rfl) ⟨wl_So_106, wt_So_isBetween, wc_So_isBetween, wn_So⟩ ⟨by decide, by decide, by decide +kernel⟩ ⟨Nat.le_of_ble_eq_true rfl, Nat.le_of_ble_eq_true rfl⟩ hl.1 rfl (rest := []) rfl (Nat.le_of_ble_eq_true rfl) ⟨Nat.zero_le _, Nat.zero_le _⟩ d_So_point_19 (fun rr hrr => ?_)
    subst hrr
    refine bz_ne (tgt := 30) hx hb d_So_point_22 (by decide) (fun h3 => ?_) (fun h3 => ?_)
    · skip
      rw [nI_ofI (x := i) rfl (by omega)] at hl
      refine lv_aload hx hb d_So_point_30 (lv_at hl 0 rfl) ?_
      refine lv_iload_n hx hb d_So_point_32 rfl (lv_at hl 3 rfl) ?_
      refine lv_iload_n hx hb d_So_point_33 rfl (lv_at hl 4 rfl) ?_
      refine rd_call (np := 2) hC hK hM.1 (cw_he (by omega) (cE_B b)) rfl (c_Bo_coordinate l D cT X I1 a1 b i.toInt.toNat what hbn1 hlo1 (by have := x_rng i; omega)) rfl ⟨wl_So_120, wi_Bo_coordinate, ws_Bo_coordinate, wc_Bo_coordinate, wn_Bo⟩ ⟨by decide, by decide, by decide +kernel⟩ ⟨Nat.le_of_ble_eq_true rfl, Nat.le_of_ble_eq_true rfl⟩ hl.1 rfl (rest := []) rfl (Nat.le_of_ble_eq_true rfl) ⟨Nat.zero_le _, Nat.zero_le _⟩ d_So_point_34 (fun rr4 hrr4 => ?_)
      refine hret _ _ _ _ _ _ _ d_So_point_37 hM ?_
      refine ⟨?_, hCI⟩
      rw [if_pos (by omega)]
      exact ptR_c hRW1 hrr4
    · skip
      refine lv_bipush (v := (-100)) hx hb d_So_point_25 (by decide) ?_
      refine lv_goto (tgt := 37) hx hb d_So_point_27 (by decide) ?_
      refine hret _ _ _ _ _ _ _ d_So_point_37 hM ?_
      refine ⟨?_, hCI⟩
      rw [if_neg (by omega)]
set_option maxHeartbeats 400000 in
set_option maxRecDepth 100000 in
theorem c_So_point_n (l : Launch) (D : va_G) (cT : Nat → ClassId) (X : CX) (I : Nat → Int32) (a : Nat → Nat → Int32) (b : Int32) (i : Int32) (what : Int32) (nb : Nat) (T : Nat → TX) (tl : Nat) (tb : Nat → Nat) (ft : Int32) (la : Nat → Int32) (szz : Nat → Nat) (ce : Nat → Nat → Int32) (hCI : CI X I a nb T tl tb ft la szz ce) (hbb : ¬ (0 ≤ b.toInt ∧ b.toInt < nb)) : CMi l D cT X y_So_point b_So_point 5 (some .int) 26 865 [.ref (X.1 0), .int b, .int i, .int what] I a (fun r u => r = -100 ∧ u = (I, a)) := by
  refine co_enti (own := R_So) (by decide) rfl (Nat.le_of_ble_eq_true rfl) ?_
  intro p e s m args below meth c Q hC hK hM hret ls hl
  have hx := hC.1
  have hb := hC.2.1
  replace hl : lv_has ls 5 [(0, .ref (X.1 0)), (1, .int b), (2, .int i), (3, .int what)] := hl
  refine lv_aload_n hx hb d_So_point_0 rfl (lv_at hl 0 rfl) ?_
  refine lv_iload_n hx hb d_So_point_1 rfl (lv_at hl 1 rfl) ?_
  refine co_callq (np := 1) hC hK hM (k := 0) (by omega) (cE_0) rfl (c_So_paintedBody_n l D cT X I a b nb T tl tb ft la szz ce hCI hbb) rfl ⟨wl_So_113, wi_So_paintedBody, ws_So_paintedBody, wc_So_paintedBody, wn_So⟩ ⟨by decide, by decide, by decide +kernel⟩ ⟨Nat.le_of_ble_eq_true rfl, Nat.le_of_ble_eq_true rfl⟩ hl.1 rfl (rest := []) rfl (Nat.le_of_ble_eq_true rfl) ⟨Nat.zero_le _, Nat.zero_le _⟩ d_So_point_2 (fun rr1 I1 a1 H locs hp1 hM => ?_)
  obtain ⟨hr1, hp1⟩ := hp1
  cases hp1
  subst hr1
  refine lv_astoreN (lv' := [(4, .null), (0, .ref (X.1 0)), (1, .int b), (2, .int i), (3, .int what)]) hx hb d_So_point_5 hl (by decide) rfl (fun ls hl => ?_)
  refine lv_aloadN hx hb d_So_point_7 (lv_at hl 0 rfl) ?_
  refine lv_ifnullN (tgt := 25) hx hb d_So_point_9 (by decide) ?_
  refine lv_bipush (v := (-100)) hx hb d_So_point_25 (by decide) ?_
  refine lv_goto (tgt := 37) hx hb d_So_point_27 (by decide) ?_
  exact hret _ _ _ _ _ _ _ d_So_point_37 hM (⟨rfl, rfl⟩)
set_option maxHeartbeats 400000 in
set_option maxRecDepth 100000 in
theorem c_So_skin_y (l : Launch) (D : va_G) (cT : Nat → ClassId) (X : CX) (I : Nat → Int32) (a : Nat → Nat → Int32) (b : Nat) (what : Int32) (nb : Nat) (T : Nat → TX) (tl : Nat) (tb : Nat → Nat) (ft : Int32) (la : Nat → Int32) (szz : Nat → Nat) (ce : Nat → Nat → Int32) (hCI : CI X I a nb T tl tb ft la szz ce) (hbb : b < nb) : CMi l D cT X y_So_skin b_So_skin 4 (some .int) 26 865 [.ref (X.1 0), .int (nI b), .int what] I a (fun r u => (r = if what = 0 then nI (sm (sqT (rwI (VF (T b)))) 15) else if what = 1 then nI (edS (VF (T b)) 0) else if what = 2 then nI (coS (VF (T b))) else if what = 3 then nI (edS (VF (T b)) 1) else -1) ∧ CI X u.1 u.2 nb T tl tb ft la szz ce) := by
  refine co_enti (own := R_So) (by decide) rfl (Nat.le_of_ble_eq_true rfl) ?_
  intro p e s m args below meth c Q hC hK hM hret ls hl
  have hx := hC.1
  have hb := hC.2.1
  replace hl : lv_has ls 4 [(0, .ref (X.1 0)), (1, .int (nI b)), (2, .int what)] := hl
  refine lv_aload_n hx hb d_So_skin_0 rfl (lv_at hl 0 rfl) ?_
  refine lv_iload_n hx hb d_So_skin_1 rfl (lv_at hl 1 rfl) ?_
  refine co_callq (np := 1) hC hK hM (k := 0) (by omega) (cE_0) rfl (c_So_paintedBody_y l D cT X I a b nb T tl tb ft la szz ce hCI hbb) rfl ⟨wl_So_113, wi_So_paintedBody, ws_So_paintedBody, wc_So_paintedBody, wn_So⟩ ⟨by decide, by decide, by decide +kernel⟩ ⟨Nat.le_of_ble_eq_true rfl, Nat.le_of_ble_eq_true rfl⟩ hl.1 rfl (rest := []) rfl (Nat.le_of_ble_eq_true rfl) ⟨Nat.zero_le _, Nat.zero_le _⟩ d_So_skin_2 (fun rr1 I1 a1 H locs hp1 hM => ?_)
  obtain ⟨ho1, hCI, hRW1, hKP1⟩ := hp1
  subst ho1
  replace hCI : CI X I1 a1 nb T tl tb ft la szz ce := hCI
  replace hRW1 : ∀ q, q < 225 → a1 (18 + 3 * b + 1) q = rwI (VF (T b)) q := hRW1
  have hbn1 : b < X.2.2.2.1 := by rw [hCI.1.2.1]; omega
  have hlo1 : ∀ q, q < 225 → lo16 (a1 (18 + 3 * b + 1) q) := fun q hq => by rw [hRW1 q hq]; exact lo_rwI
  refine lv_astore_n (lv' := [(3, .ref (X.1 (18 + 3 * b))), (0, .ref (X.1 0)), (1, .int (nI b)), (2, .int what)]) hx hb d_So_skin_5 rfl hl (by decide) rfl (fun ls hl => ?_)
  refine lv_aload_n hx hb d_So_skin_6 rfl (lv_at hl 0 rfl) ?_
  refine lv_ifnonnull (tgt := 12) hx hb d_So_skin_7 (by decide) ?_
  refine lv_iload_n hx hb d_So_skin_12 rfl (lv_at hl 3 rfl) ?_
  by_cases h2_0 : what = 0
  · have ev : (what).toInt = 0 := by rw [h2_0]; rfl
    refine lv_tableIn (tgt := 44) hx hb d_So_skin_13 (by rw [ev]; decide) (by rw [ev]; decide) (by rw [ev]; rfl) (by decide) ?_
    refine lv_aload_n hx hb d_So_skin_44 rfl (lv_at hl 0 rfl) ?_
    refine rd_call (np := 0) hC hK hM.1 (cw_he (by omega) (cE_B b)) rfl (c_Bo_squares l D cT X I1 a1 b hbn1 hlo1) rfl ⟨wl_So_124, wi_Bo_squares, ws_Bo_squares, wc_Bo_squares, wn_Bo⟩ ⟨by decide, by decide, by decide +kernel⟩ ⟨Nat.le_of_ble_eq_true rfl, Nat.le_of_ble_eq_true rfl⟩ hl.1 rfl (rest := []) rfl (Nat.le_of_ble_eq_true rfl) ⟨Nat.zero_le _, Nat.zero_le _⟩ d_So_skin_45 (fun rr hrr => ?_)
    replace hrr : rr = nI (sm (sqT (rwI (VF (T b)))) 15) := hrr.trans (by rw [sqT_c hRW1])
    subst hrr
    exact hret _ _ _ _ _ _ _ d_So_skin_48 hM (⟨by rw [h2_0]; rfl, hCI⟩)
  by_cases h2_1 : what = 1
  · have ev : (what).toInt = 1 := by rw [h2_1]; rfl
    refine lv_tableIn (tgt := 49) hx hb d_So_skin_13 (by rw [ev]; decide) (by rw [ev]; decide) (by rw [ev]; rfl) (by decide) ?_
    refine lv_aload_n hx hb d_So_skin_49 rfl (lv_at hl 0 rfl) ?_
    refine lv_iconst (v := 0) hx hb d_So_skin_50 (by decide) ?_
    refine rd_call (np := 1) hC hK hM.1 (cw_he (by omega) (cE_B b)) rfl (c_Bo_edges l D cT X I1 a1 b 0 hbn1 hlo1) rfl ⟨wl_So_127, wi_Bo_edges, ws_Bo_edges, wc_Bo_edges, wn_Bo⟩ ⟨by decide, by decide, by decide +kernel⟩ ⟨Nat.le_of_ble_eq_true rfl, Nat.le_of_ble_eq_true rfl⟩ hl.1 rfl (rest := []) rfl (Nat.le_of_ble_eq_true rfl) ⟨Nat.zero_le _, Nat.zero_le _⟩ d_So_skin_51 (fun rr hrr => ?_)
    replace hrr : rr = nI (edS (VF (T b)) 0) := hrr.trans (by unfold edS; simp only [edR_c hRW1])
    subst hrr
    exact hret _ _ _ _ _ _ _ d_So_skin_54 hM (⟨by rw [h2_1]; rfl, hCI⟩)
  by_cases h2_2 : what = 2
  · have ev : (what).toInt = 2 := by rw [h2_2]; rfl
    refine lv_tableIn (tgt := 55) hx hb d_So_skin_13 (by rw [ev]; decide) (by rw [ev]; decide) (by rw [ev]; rfl) (by decide) ?_
    refine lv_aload_n hx hb d_So_skin_55 rfl (lv_at hl 0 rfl) ?_
    refine rd_call (np := 0) hC hK hM.1 (cw_he (by omega) (cE_B b)) rfl (c_Bo_corners l D cT X I1 a1 b hbn1 hlo1) rfl ⟨wl_So_131, wi_Bo_corners, ws_Bo_corners, wc_Bo_corners, wn_Bo⟩ ⟨by decide, by decide, by decide +kernel⟩ ⟨Nat.le_of_ble_eq_true rfl, Nat.le_of_ble_eq_true rfl⟩ hl.1 rfl (rest := []) rfl (Nat.le_of_ble_eq_true rfl) ⟨Nat.zero_le _, Nat.zero_le _⟩ d_So_skin_56 (fun rr hrr => ?_)
    replace hrr : rr = nI (coS (VF (T b))) := hrr.trans (by unfold coS; simp only [coR_c hRW1])
    subst hrr
    exact hret _ _ _ _ _ _ _ d_So_skin_59 hM (⟨by rw [h2_2]; rfl, hCI⟩)
  by_cases h2_3 : what = 3
  · have ev : (what).toInt = 3 := by rw [h2_3]; rfl
    refine lv_tableIn (tgt := 60) hx hb d_So_skin_13 (by rw [ev]; decide) (by rw [ev]; decide) (by rw [ev]; rfl) (by decide) ?_
    refine lv_aload_n hx hb d_So_skin_60 rfl (lv_at hl 0 rfl) ?_
    refine lv_iconst (v := 1) hx hb d_So_skin_61 (by decide) ?_
    refine rd_call (np := 1) hC hK hM.1 (cw_he (by omega) (cE_B b)) rfl (c_Bo_edges l D cT X I1 a1 b 1 hbn1 hlo1) rfl ⟨wl_So_127, wi_Bo_edges, ws_Bo_edges, wc_Bo_edges, wn_Bo⟩ ⟨by decide, by decide, by decide +kernel⟩ ⟨Nat.le_of_ble_eq_true rfl, Nat.le_of_ble_eq_true rfl⟩ hl.1 rfl (rest := []) rfl (Nat.le_of_ble_eq_true rfl) ⟨Nat.zero_le _, Nat.zero_le _⟩ d_So_skin_62 (fun rr hrr => ?_)
    replace hrr : rr = nI (edS (VF (T b)) 1) := hrr.trans (by unfold edS; simp only [edR_c hRW1])
    subst hrr
    exact hret _ _ _ _ _ _ _ d_So_skin_65 hM (⟨by rw [h2_3]; rfl, hCI⟩)
  have ev : (what).toInt < 0 ∨ 3 < (what).toInt := by
    have z0 : (what).toInt ≠ 0 := fun q => h2_0 (Int32.toInt_inj.mp (q.trans (by rfl)))
    have z1 : (what).toInt ≠ 1 := fun q => h2_1 (Int32.toInt_inj.mp (q.trans (by rfl)))
    have z2 : (what).toInt ≠ 2 := fun q => h2_2 (Int32.toInt_inj.mp (q.trans (by rfl)))
    have z3 : (what).toInt ≠ 3 := fun q => h2_3 (Int32.toInt_inj.mp (q.trans (by rfl)))
    omega
  refine lv_tableOut (tgt := 66) hx hb d_So_skin_13 ev (by decide) ?_
  refine lv_iconst (v := (-1)) hx hb d_So_skin_66 (by decide) ?_
  exact hret _ _ _ _ _ _ _ d_So_skin_67 hM (⟨by rw [if_neg h2_0, if_neg h2_1, if_neg h2_2, if_neg h2_3], hCI⟩)
set_option maxHeartbeats 400000 in
set_option maxRecDepth 100000 in
theorem c_So_skin_n (l : Launch) (D : va_G) (cT : Nat → ClassId) (X : CX) (I : Nat → Int32) (a : Nat → Nat → Int32) (b : Int32) (what : Int32) (nb : Nat) (T : Nat → TX) (tl : Nat) (tb : Nat → Nat) (ft : Int32) (la : Nat → Int32) (szz : Nat → Nat) (ce : Nat → Nat → Int32) (hCI : CI X I a nb T tl tb ft la szz ce) (hbb : ¬ (0 ≤ b.toInt ∧ b.toInt < nb)) : CMi l D cT X y_So_skin b_So_skin 4 (some .int) 26 865 [.ref (X.1 0), .int b, .int what] I a (fun r u => r = -1 ∧ u = (I, a)) := by
  refine co_enti (own := R_So) (by decide) rfl (Nat.le_of_ble_eq_true rfl) ?_
  intro p e s m args below meth c Q hC hK hM hret ls hl
  have hx := hC.1
  have hb := hC.2.1
  replace hl : lv_has ls 4 [(0, .ref (X.1 0)), (1, .int b), (2, .int what)] := hl
  refine lv_aload_n hx hb d_So_skin_0 rfl (lv_at hl 0 rfl) ?_
  refine lv_iload_n hx hb d_So_skin_1 rfl (lv_at hl 1 rfl) ?_
  refine co_callq (np := 1) hC hK hM (k := 0) (by omega) (cE_0) rfl (c_So_paintedBody_n l D cT X I a b nb T tl tb ft la szz ce hCI hbb) rfl ⟨wl_So_113, wi_So_paintedBody, ws_So_paintedBody, wc_So_paintedBody, wn_So⟩ ⟨by decide, by decide, by decide +kernel⟩ ⟨Nat.le_of_ble_eq_true rfl, Nat.le_of_ble_eq_true rfl⟩ hl.1 rfl (rest := []) rfl (Nat.le_of_ble_eq_true rfl) ⟨Nat.zero_le _, Nat.zero_le _⟩ d_So_skin_2 (fun rr1 I1 a1 H locs hp1 hM => ?_)
  obtain ⟨hr1, hp1⟩ := hp1
  cases hp1
  subst hr1
  refine lv_astore_nN (lv' := [(3, .null), (0, .ref (X.1 0)), (1, .int b), (2, .int what)]) hx hb d_So_skin_5 rfl hl (by decide) rfl (fun ls hl => ?_)
  refine lv_aload_nN hx hb d_So_skin_6 rfl (lv_at hl 0 rfl) ?_
  refine lv_ifnonnullN hx hb d_So_skin_7 ?_
  refine lv_iconst (v := (-1)) hx hb d_So_skin_10 (by decide) ?_
  exact hret _ _ _ _ _ _ _ d_So_skin_11 hM (⟨rfl, rfl⟩)
