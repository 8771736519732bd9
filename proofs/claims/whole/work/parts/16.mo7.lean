/-! the reference: bodies: values, points within -/
abbrev TX : Type := Nat × (Nat → Nat) × (Nat → Nat → Int) × (Nat → Nat)
def BDT (a : Nat → Nat → Int32) (b : Nat) (t : TX) : Prop := BD a b t.1 t.2.1 t.2.2.1 t.2.2.2
def spT (t : TX) (B : Nat → Int) : Int × Int := spn t.2.1 t.2.2.1 t.2.2.2 t.1 B
def bx6 (x u y v z w : Int) (i : Nat) : Int := if i = 0 then x else if i = 1 then u else if i = 2 then y else if i = 3 then v else if i = 4 then z else w
theorem bx6_b {x u y v z w : Int} (h : (-1000 ≤ x ∧ x ≤ 1000) ∧ (-1000 ≤ u ∧ u ≤ 1000) ∧ (-1000 ≤ y ∧ y ≤ 1000) ∧ (-1000 ≤ v ∧ v ≤ 1000) ∧ (-1000 ≤ z ∧ z ≤ 1000) ∧ (-1000 ≤ w ∧ w ≤ 1000)) : ∀ i, -1000 ≤ bx6 x u y v z w i ∧ bx6 x u y v z w i ≤ 1000 := by
  intro i
  unfold bx6
  (repeat' split) <;> omega
/-- the rule's value at a place -/
def vl (t : TX) (x y z : Int) : Int := (spT t (bx6 x x y y z z)).1
def vw (t : TX) (k : Nat) : Bool := decide (vl t ((↑(k % 15) : Int) - 7) ((↑(k / 15 % 15) : Int) - 7) ((↑(k / 225) : Int) - 7) < 0)
def wi (t : TX) (k : Nat) : Int32 := bI (vw t k = true)
def cn (p : Nat → Bool) : Nat → Nat
  | 0 => 0
  | n + 1 => cn p n + (if p n = true then 1 else 0)
theorem cn_le (p : Nat → Bool) : ∀ n, cn p n ≤ n
  | 0 => Nat.le_refl 0
  | n + 1 => by
    have ih := cn_le p n
    unfold cn
    split <;> omega
theorem pt_in0 {f g : Nat → Int32} {n j : Nat} (h : j < n) : pt f g 0 n j = g j := by
  unfold pt
  rw [if_pos (by omega)]
  rfl
theorem BDT_of {a a' : Nat → Nat → Int32} {b : Nat} {t : TX} (h : BDT a b t) (h1 : a' 1 = a 1) (h2 : a' 2 = a 2) (h3 : a' 3 = a 3) (h4 : a' 4 = a 4) : BDT a' b t := by
  unfold BDT BD at *
  rw [h1, h2, h3, h4]
  exact h
theorem sp_b {t : TX} {a : Nat → Nat → Int32} {b : Nat} {B : Nat → Int} (h : BDT a b t) (hB : ∀ i, -1000 ≤ B i ∧ B i ≤ 1000) : vb (spT t B) := by
  obtain ⟨hmany, hm1, hm64, hkd, hab, hnb, bnb, hrep, hsh, hend⟩ := h
  have hl := pil_len (nb := t.2.2.1) (Bx := bxr t.2.1 t.2.2.1 t.2.2.2 B 64) hsh t.1 (Nat.le_refl _)
  have hb := pil_b (kd := t.2.1) (nb := t.2.2.1) (Bx := bxr t.2.1 t.2.2.1 t.2.2.2 B 64) (many := t.1) bnb (fun k hk i => by have := bxr_b (fun k h0 h1 => (hab k h0 h1).2) bnb hrep hB 64 k hk i; omega) t.1 (Nat.le_refl _)
  rw [hend] at hl
  unfold spT spn
  obtain ⟨v, hv⟩ := one_of hl
  rw [hv] at hb ⊢
  exact hb v List.mem_cons_self
theorem ex_nI0 {x : Int32} (h1 : 0 ≤ x.toInt) : ∃ q : Nat, q < 2147483648 ∧ x = nI q ∧ x.toInt = q := by
  obtain ⟨q, h2, h3, h4⟩ := ex_nI (n := 2147483647) h1 (by have := x_rng x; omega)
  exact ⟨q, by omega, h3, h4⟩
set_option maxHeartbeats 400000 in
set_option maxRecDepth 100000 in
theorem c_Mo_rule (l : Launch) (D : va_G) (cT : Nat → ClassId) (ad : Nat → Nat) (I : Nat → Int32) (J : Nat → Int64) (a : Nat → Nat → Int32) (g : Nat → Nat → Int64) (b : Int32) (x : Int32) (y : Int32) (z : Int32) (nbo : Nat) (T : Nat → TX) (hnb : I 0 = nI nbo) (h8 : nbo ≤ 8) (hT : ∀ q, q < nbo → BDT a q (T q)) : MMi l D cT ad y_Mo_rule b_Mo_rule 5 (some .int) 4 123 [.int b, .int x, .int y, .int z] I J a g (fun r u => u.1 = I ∧ u.2.2.1 = a ∧ r = if (0 ≤ b.toInt ∧ b.toInt < (nbo : Int)) ∧ (-1000 ≤ x.toInt ∧ x.toInt ≤ 1000) ∧ (-1000 ≤ y.toInt ∧ y.toInt ≤ 1000) ∧ (-1000 ≤ z.toInt ∧ z.toInt ≤ 1000) then iI (vl (T b.toInt.toNat) x.toInt y.toInt z.toInt) else -1000000000) := by
  refine mo_enti (by decide) rfl (Nat.le_of_ble_eq_true rfl) ?_
  intro p e s m args below meth c Q hC hK hM hret ls hl
  have hx := hC.1
  have hb := hC.2.1
  replace hl : lv_has ls 5 [(0, .ref (ad 46)), (1, .int b), (2, .int x), (3, .int y), (4, .int z)] := hl
  refine lv_aload_n hx hb d_Mo_rule_0 rfl (lv_at hl 0 rfl) ?_
  refine lv_iload_n hx hb d_Mo_rule_1 rfl (lv_at hl 1 rfl) ?_
  refine mo_callr (np := 1) hC hK hM (c_Mo_is l D cT ad I J a g b nbo hnb h8) rfl ⟨wl_Mo_204, wi_Mo_is, ws_Mo_is, wc_Mo_is, wn_Mo⟩ ⟨by decide, by decide, by decide +kernel⟩ ⟨Nat.le_of_ble_eq_true rfl, Nat.le_of_ble_eq_true rfl⟩ hl.1 rfl (rest := []) rfl (Nat.le_of_ble_eq_true rfl) ⟨Nat.zero_le _, Nat.zero_le _⟩ d_Mo_rule_2 (fun rr hrr => ?_)
  subst hrr
  refine bz_eq (tgt := 51) hx hb d_Mo_rule_5 (by decide) (fun h1 => ?_) (fun h1 => ?_)
  · skip
    refine lv_ldc (v := (-1000000000)) hx hb hC.2.2.2.1 (hC.2.2.2.2 _ wx_Mo_212) d_Mo_rule_51 ?_
    exact hret _ _ _ _ _ _ _ _ _ d_Mo_rule_53 hM (⟨rfl, rfl, by rw [if_neg (by omega)]⟩)
  · skip
    refine lv_iload_n hx hb d_Mo_rule_8 rfl (lv_at hl 2 rfl) ?_
    refine lv_i2l (v := iL x.toInt) hx hb d_Mo_rule_9 (x_l _) ?_
    refine lv_ldc2 (v := (-1000)) hx hb hC.2.2.2.1 (hC.2.2.2.2 _ wx_Mo_208) d_Mo_rule_10 ?_
    refine lv_ldc2 (v := 1000) hx hb hC.2.2.2.1 (hC.2.2.2.2 _ wx_Mo_210) d_Mo_rule_13 ?_
    refine st_calli (np := 3) hC (c_Mo_in l (iL (x.toInt)) (-1000) 1000 x.toInt (-1000) 1000 (iL_tx x) rfl rfl) ⟨wl_Mo_91, wt_Mo_in, wc_Mo_in, wn_Mo⟩ ⟨by decide, by decide, by decide +kernel⟩ ⟨Nat.le_of_ble_eq_true rfl, Nat.le_of_ble_eq_true rfl⟩ hl.1 rfl (rest := []) rfl (Nat.le_of_ble_eq_true rfl) ⟨Nat.zero_le _, Nat.zero_le _⟩ d_Mo_rule_16 (fun rr hrr => ?_)
    subst hrr
    refine bz_eq (tgt := 51) hx hb d_Mo_rule_19 (by decide) (fun h2 => ?_) (fun h2 => ?_)
    · skip
      refine lv_ldc (v := (-1000000000)) hx hb hC.2.2.2.1 (hC.2.2.2.2 _ wx_Mo_212) d_Mo_rule_51 ?_
      exact hret _ _ _ _ _ _ _ _ _ d_Mo_rule_53 hM (⟨rfl, rfl, by rw [if_neg (by omega)]⟩)
    · skip
      refine lv_iload_n hx hb d_Mo_rule_22 rfl (lv_at hl 3 rfl) ?_
      refine lv_i2l (v := iL y.toInt) hx hb d_Mo_rule_23 (x_l _) ?_
      refine lv_ldc2 (v := (-1000)) hx hb hC.2.2.2.1 (hC.2.2.2.2 _ wx_Mo_208) d_Mo_rule_24 ?_
      refine lv_ldc2 (v := 1000) hx hb hC.2.2.2.1 (hC.2.2.2.2 _ wx_Mo_210) d_Mo_rule_27 ?_
      refine st_calli (np := 3) hC (c_Mo_in l (iL (y.toInt)) (-1000) 1000 y.toInt (-1000) 1000 (iL_tx y) rfl rfl) ⟨wl_Mo_91, wt_Mo_in, wc_Mo_in, wn_Mo⟩ ⟨by decide, by decide, by decide +kernel⟩ ⟨Nat.le_of_ble_eq_true rfl, Nat.le_of_ble_eq_true rfl⟩ hl.1 rfl (rest := []) rfl (Nat.le_of_ble_eq_true rfl) ⟨Nat.zero_le _, Nat.zero_le _⟩ d_Mo_rule_30 (fun rr hrr => ?_)
      subst hrr
      refine bz_eq (tgt := 51) hx hb d_Mo_rule_33 (by decide) (fun h3 => ?_) (fun h3 => ?_)
      · skip
        refine lv_ldc (v := (-1000000000)) hx hb hC.2.2.2.1 (hC.2.2.2.2 _ wx_Mo_212) d_Mo_rule_51 ?_
        exact hret _ _ _ _ _ _ _ _ _ d_Mo_rule_53 hM (⟨rfl, rfl, by rw [if_neg (by omega)]⟩)
      · skip
        refine lv_iload hx hb d_Mo_rule_36 (lv_at hl 4 rfl) ?_
        refine lv_i2l (v := iL z.toInt) hx hb d_Mo_rule_38 (x_l _) ?_
        refine lv_ldc2 (v := (-1000)) hx hb hC.2.2.2.1 (hC.2.2.2.2 _ wx_Mo_208) d_Mo_rule_39 ?_
        refine lv_ldc2 (v := 1000) hx hb hC.2.2.2.1 (hC.2.2.2.2 _ wx_Mo_210) d_Mo_rule_42 ?_
        refine st_calli (np := 3) hC (c_Mo_in l (iL (z.toInt)) (-1000) 1000 z.toInt (-1000) 1000 (iL_tx z) rfl rfl) ⟨wl_Mo_91, wt_Mo_in, wc_Mo_in, wn_Mo⟩ ⟨by decide, by decide, by decide +kernel⟩ ⟨Nat.le_of_ble_eq_true rfl, Nat.le_of_ble_eq_true rfl⟩ hl.1 rfl (rest := []) rfl (Nat.le_of_ble_eq_true rfl) ⟨Nat.zero_le _, Nat.zero_le _⟩ d_Mo_rule_45 (fun rr hrr => ?_)
        subst hrr
        refine bz_ne (tgt := 54) hx hb d_Mo_rule_48 (by decide) (fun h4 => ?_) (fun h4 => ?_)
        · skip
          obtain ⟨q, hq, rfl, hqt⟩ := ex_nI (n := 7) (x := b) (by omega) (by omega)
          have hqn : q < nbo := by omega
          refine lv_aload_n hx hb d_Mo_rule_54 rfl (lv_at hl 0 rfl) ?_
          refine lv_iload_n hx hb d_Mo_rule_55 rfl (lv_at hl 1 rfl) ?_
          refine lv_iload_n hx hb d_Mo_rule_56 rfl (lv_at hl 2 rfl) ?_
          refine lv_i2l (v := iL x.toInt) hx hb d_Mo_rule_57 (x_l _) ?_
          refine lv_iload_n hx hb d_Mo_rule_58 rfl (lv_at hl 3 rfl) ?_
          refine lv_i2l (v := iL y.toInt) hx hb d_Mo_rule_59 (x_l _) ?_
          refine lv_iload hx hb d_Mo_rule_60 (lv_at hl 4 rfl) ?_
          refine lv_i2l (v := iL z.toInt) hx hb d_Mo_rule_62 (x_l _) ?_
          refine lv_iload_n hx hb d_Mo_rule_63 rfl (lv_at hl 2 rfl) ?_
          refine lv_i2l (v := iL x.toInt) hx hb d_Mo_rule_64 (x_l _) ?_
          refine lv_iload_n hx hb d_Mo_rule_65 rfl (lv_at hl 3 rfl) ?_
          refine lv_i2l (v := iL y.toInt) hx hb d_Mo_rule_66 (x_l _) ?_
          refine lv_iload hx hb d_Mo_rule_67 (lv_at hl 4 rfl) ?_
          refine lv_i2l (v := iL z.toInt) hx hb d_Mo_rule_69 (x_l _) ?_
          refine mo_callv (np := 7) hC hK hM (c_Mo_spans l D cT ad I J a g q (T q).1 (T q).2.1 (T q).2.2.1 (T q).2.2.2 (bx6 x.toInt x.toInt y.toInt y.toInt z.toInt z.toInt) (by omega) (hT q (by omega)) (bx6_b (by omega))) rfl ⟨wl_Mo_213, wi_Mo_spans, ws_Mo_spans, wc_Mo_spans, wn_Mo⟩ ⟨by decide, by decide, by decide +kernel⟩ ⟨Nat.le_of_ble_eq_true rfl, Nat.le_of_ble_eq_true rfl⟩ hl.1 rfl (rest := []) rfl (Nat.le_of_ble_eq_true rfl) ⟨Nat.zero_le _, Nat.zero_le _⟩ d_Mo_rule_70 (fun I5 J5 a5 g5 H locs hp5 hM => ?_)
          obtain ⟨hI_p5, hA_p5, hlo_p5, hhi_p5⟩ := hp5
          replace hI_p5 : I5 = I := hI_p5
          replace hA_p5 : a5 = a := hA_p5
          replace hlo_p5 : J5 24 = iL (spT (T q) (bx6 x.toInt x.toInt y.toInt y.toInt z.toInt z.toInt)).1 := hlo_p5
          replace hhi_p5 : J5 25 = iL (spT (T q) (bx6 x.toInt x.toInt y.toInt y.toInt z.toInt z.toInt)).2 := hhi_p5
          rw [hI_p5, hA_p5] at hM
          have hv_p5 := sp_b (B := (bx6 x.toInt x.toInt y.toInt y.toInt z.toInt z.toInt)) (hT q (by omega)) (bx6_b (by omega))
          unfold vb at hv_p5
          refine lv_aload_n hx hb d_Mo_rule_73 rfl (lv_at hl 0 rfl) ?_
          refine mo_getj hC hK hM 24 wf_Mo_179 rfl rfl (by decide) (v := iL ((spT (T q) (bx6 x.toInt x.toInt y.toInt y.toInt z.toInt z.toInt)).1)) (hlo_p5) d_Mo_rule_74 ?_
          refine lv_l2i (v := iI ((spT (T q) (bx6 x.toInt x.toInt y.toInt y.toInt z.toInt z.toInt)).1)) hx hb d_Mo_rule_77 (iL_i (by omega) (by omega)) ?_
          exact hret _ _ _ _ _ _ _ _ _ d_Mo_rule_78 hM (⟨rfl, rfl, by rw [if_pos (by omega), hqt]; rfl⟩)
        · skip
          refine lv_ldc (v := (-1000000000)) hx hb hC.2.2.2.1 (hC.2.2.2.2 _ wx_Mo_212) d_Mo_rule_51 ?_
          exact hret _ _ _ _ _ _ _ _ _ d_Mo_rule_53 hM (⟨rfl, rfl, by rw [if_neg (by omega)]⟩)
set_option maxHeartbeats 400000 in
set_option maxRecDepth 100000 in
theorem c_Mo_span (l : Launch) (D : va_G) (cT : Nat → ClassId) (ad : Nat → Nat) (I : Nat → Int32) (J : Nat → Int64) (a : Nat → Nat → Int32) (g : Nat → Nat → Int64) (b : Int32) (x : Int32) (y : Int32) (z : Int32) (u : Int32) (v : Int32) (w : Int32) (top : Int32) (nbo : Nat) (T : Nat → TX) (hnb : I 0 = nI nbo) (h8 : nbo ≤ 8) (hT : ∀ q, q < nbo → BDT a q (T q)) : MMi l D cT ad y_Mo_span b_Mo_span 9 (some .int) 4 123 [.int b, .int x, .int y, .int z, .int u, .int v, .int w, .int top] I J a g (fun r s => s.1 = I ∧ s.2.2.1 = a ∧ r = if (0 ≤ b.toInt ∧ b.toInt < (nbo : Int)) ∧ (-7 ≤ x.toInt ∧ x.toInt ≤ 7 ∧ -7 ≤ y.toInt ∧ y.toInt ≤ 7 ∧ -7 ≤ z.toInt ∧ z.toInt ≤ 7) ∧ (-7 ≤ u.toInt ∧ u.toInt ≤ 7 ∧ -7 ≤ v.toInt ∧ v.toInt ≤ 7 ∧ -7 ≤ w.toInt ∧ w.toInt ≤ 7) ∧ x.toInt ≤ u.toInt ∧ y.toInt ≤ v.toInt ∧ z.toInt ≤ w.toInt then iI (if top = 0 then (spT (T b.toInt.toNat) (bx6 x.toInt u.toInt y.toInt v.toInt z.toInt w.toInt)).1 else (spT (T b.toInt.toNat) (bx6 x.toInt u.toInt y.toInt v.toInt z.toInt w.toInt)).2) else -1000000000) := by
  refine mo_enti (by decide) rfl (Nat.le_of_ble_eq_true rfl) ?_
  intro p e s m args below meth c Q hC hK hM hret ls hl
  have hx := hC.1
  have hb := hC.2.1
  replace hl : lv_has ls 9 [(0, .ref (ad 46)), (1, .int b), (2, .int x), (3, .int y), (4, .int z), (5, .int u), (6, .int v), (7, .int w), (8, .int top)] := hl
  refine lv_aload_n hx hb d_Mo_span_0 rfl (lv_at hl 0 rfl) ?_
  refine lv_iload_n hx hb d_Mo_span_1 rfl (lv_at hl 1 rfl) ?_
  refine mo_callr (np := 1) hC hK hM (c_Mo_is l D cT ad I J a g b nbo hnb h8) rfl ⟨wl_Mo_204, wi_Mo_is, ws_Mo_is, wc_Mo_is, wn_Mo⟩ ⟨by decide, by decide, by decide +kernel⟩ ⟨Nat.le_of_ble_eq_true rfl, Nat.le_of_ble_eq_true rfl⟩ hl.1 rfl (rest := []) rfl (Nat.le_of_ble_eq_true rfl) ⟨Nat.zero_le _, Nat.zero_le _⟩ d_Mo_span_2 (fun rr hrr => ?_)
  subst hrr
  refine bz_eq (tgt := 49) hx hb d_Mo_span_5 (by decide) (fun h1 => ?_) (fun h1 => ?_)
  · skip
    refine lv_ldc (v := (-1000000000)) hx hb hC.2.2.2.1 (hC.2.2.2.2 _ wx_Mo_212) d_Mo_span_49 ?_
    exact hret _ _ _ _ _ _ _ _ _ d_Mo_span_51 hM (⟨rfl, rfl, by rw [if_neg (by omega)]⟩)
  · skip
    refine lv_iload_n hx hb d_Mo_span_8 rfl (lv_at hl 2 rfl) ?_
    refine lv_iload_n hx hb d_Mo_span_9 rfl (lv_at hl 3 rfl) ?_
    refine lv_iload hx hb d_Mo_span_10 (lv_at hl 4 rfl) ?_
    refine st_calli (np := 3) hC (c_Mo_isPoint l x y z x.toInt y.toInt z.toInt rfl rfl rfl) ⟨wl_Mo_221, wt_Mo_isPoint, wc_Mo_isPoint, wn_Mo⟩ ⟨by decide, by decide, by decide +kernel⟩ ⟨Nat.le_of_ble_eq_true rfl, Nat.le_of_ble_eq_true rfl⟩ hl.1 rfl (rest := []) rfl (Nat.le_of_ble_eq_true rfl) ⟨Nat.zero_le _, Nat.zero_le _⟩ d_Mo_span_12 (fun rr hrr => ?_)
    subst hrr
    refine bz_eq (tgt := 49) hx hb d_Mo_span_15 (by decide) (fun h2 => ?_) (fun h2 => ?_)
    · skip
      refine lv_ldc (v := (-1000000000)) hx hb hC.2.2.2.1 (hC.2.2.2.2 _ wx_Mo_212) d_Mo_span_49 ?_
      exact hret _ _ _ _ _ _ _ _ _ d_Mo_span_51 hM (⟨rfl, rfl, by rw [if_neg (by omega)]⟩)
    · skip
      refine lv_iload hx hb d_Mo_span_18 (lv_at hl 5 rfl) ?_
      refine lv_iload hx hb d_Mo_span_20 (lv_at hl 6 rfl) ?_
      refine lv_iload hx hb d_Mo_span_22 (lv_at hl 7 rfl) ?_
      refine st_calli (np := 3) hC (c_Mo_isPoint l u v w u.toInt v.toInt w.toInt rfl rfl rfl) ⟨wl_Mo_221, wt_Mo_isPoint, wc_Mo_isPoint, wn_Mo⟩ ⟨by decide, by decide, by decide +kernel⟩ ⟨Nat.le_of_ble_eq_true rfl, Nat.le_of_ble_eq_true rfl⟩ hl.1 rfl (rest := []) rfl (Nat.le_of_ble_eq_true rfl) ⟨Nat.zero_le _, Nat.zero_le _⟩ d_Mo_span_24 (fun rr hrr => ?_)
      subst hrr
      refine bz_eq (tgt := 49) hx hb d_Mo_span_27 (by decide) (fun h3 => ?_) (fun h3 => ?_)
      · skip
        refine lv_ldc (v := (-1000000000)) hx hb hC.2.2.2.1 (hC.2.2.2.2 _ wx_Mo_212) d_Mo_span_49 ?_
        exact hret _ _ _ _ _ _ _ _ _ d_Mo_span_51 hM (⟨rfl, rfl, by rw [if_neg (by omega)]⟩)
      · skip
        refine lv_iload hx hb d_Mo_span_30 (lv_at hl 5 rfl) ?_
        refine lv_iload_n hx hb d_Mo_span_32 rfl (lv_at hl 2 rfl) ?_
        refine yc_lt hx hb u.toInt x.toInt (rfl) (rfl) d_Mo_span_33 (tgt := 49) (by decide) (fun h4 => ?_) (fun h4 => ?_)
        · skip
          refine lv_ldc (v := (-1000000000)) hx hb hC.2.2.2.1 (hC.2.2.2.2 _ wx_Mo_212) d_Mo_span_49 ?_
          exact hret _ _ _ _ _ _ _ _ _ d_Mo_span_51 hM (⟨rfl, rfl, by rw [if_neg (by omega)]⟩)
        · skip
          refine lv_iload hx hb d_Mo_span_36 (lv_at hl 6 rfl) ?_
          refine lv_iload_n hx hb d_Mo_span_38 rfl (lv_at hl 3 rfl) ?_
          refine yc_lt hx hb v.toInt y.toInt (rfl) (rfl) d_Mo_span_39 (tgt := 49) (by decide) (fun h5 => ?_) (fun h5 => ?_)
          · skip
            refine lv_ldc (v := (-1000000000)) hx hb hC.2.2.2.1 (hC.2.2.2.2 _ wx_Mo_212) d_Mo_span_49 ?_
            exact hret _ _ _ _ _ _ _ _ _ d_Mo_span_51 hM (⟨rfl, rfl, by rw [if_neg (by omega)]⟩)
          · skip
            refine lv_iload hx hb d_Mo_span_42 (lv_at hl 7 rfl) ?_
            refine lv_iload hx hb d_Mo_span_44 (lv_at hl 4 rfl) ?_
            refine yc_ge hx hb w.toInt z.toInt (rfl) (rfl) d_Mo_span_46 (tgt := 52) (by decide) (fun h6 => ?_) (fun h6 => ?_)
            · skip
              obtain ⟨q, hq, rfl, hqt⟩ := ex_nI (n := 7) (x := b) (by omega) (by omega)
              have hqn : q < nbo := by omega
              refine lv_aload_n hx hb d_Mo_span_52 rfl (lv_at hl 0 rfl) ?_
              refine lv_iload_n hx hb d_Mo_span_53 rfl (lv_at hl 1 rfl) ?_
              refine lv_iload_n hx hb d_Mo_span_54 rfl (lv_at hl 2 rfl) ?_
              refine lv_i2l (v := iL x.toInt) hx hb d_Mo_span_55 (x_l _) ?_
              refine lv_iload_n hx hb d_Mo_span_56 rfl (lv_at hl 3 rfl) ?_
              refine lv_i2l (v := iL y.toInt) hx hb d_Mo_span_57 (x_l _) ?_
              refine lv_iload hx hb d_Mo_span_58 (lv_at hl 4 rfl) ?_
              refine lv_i2l (v := iL z.toInt) hx hb d_Mo_span_60 (x_l _) ?_
              refine lv_iload hx hb d_Mo_span_61 (lv_at hl 5 rfl) ?_
              refine lv_i2l (v := iL u.toInt) hx hb d_Mo_span_63 (x_l _) ?_
              refine lv_iload hx hb d_Mo_span_64 (lv_at hl 6 rfl) ?_
              refine lv_i2l (v := iL v.toInt) hx hb d_Mo_span_66 (x_l _) ?_
              refine lv_iload hx hb d_Mo_span_67 (lv_at hl 7 rfl) ?_
              refine lv_i2l (v := iL w.toInt) hx hb d_Mo_span_69 (x_l _) ?_
              refine mo_callv (np := 7) hC hK hM (c_Mo_spans l D cT ad I J a g q (T q).1 (T q).2.1 (T q).2.2.1 (T q).2.2.2 (bx6 x.toInt u.toInt y.toInt v.toInt z.toInt w.toInt) (by omega) (hT q (by omega)) (bx6_b (by omega))) rfl ⟨wl_Mo_213, wi_Mo_spans, ws_Mo_spans, wc_Mo_spans, wn_Mo⟩ ⟨by decide, by decide, by decide +kernel⟩ ⟨Nat.le_of_ble_eq_true rfl, Nat.le_of_ble_eq_true rfl⟩ hl.1 rfl (rest := []) rfl (Nat.le_of_ble_eq_true rfl) ⟨Nat.zero_le _, Nat.zero_le _⟩ d_Mo_span_70 (fun I7 J7 a7 g7 H locs hp7 hM => ?_)
              obtain ⟨hI_p7, hA_p7, hlo_p7, hhi_p7⟩ := hp7
              replace hI_p7 : I7 = I := hI_p7
              replace hA_p7 : a7 = a := hA_p7
              replace hlo_p7 : J7 24 = iL (spT (T q) (bx6 x.toInt u.toInt y.toInt v.toInt z.toInt w.toInt)).1 := hlo_p7
              replace hhi_p7 : J7 25 = iL (spT (T q) (bx6 x.toInt u.toInt y.toInt v.toInt z.toInt w.toInt)).2 := hhi_p7
              rw [hI_p7, hA_p7] at hM
              have hv_p7 := sp_b (B := (bx6 x.toInt u.toInt y.toInt v.toInt z.toInt w.toInt)) (hT q (by omega)) (bx6_b (by omega))
              unfold vb at hv_p7
              refine lv_iload hx hb d_Mo_span_73 (lv_at hl 8 rfl) ?_
              refine yz_eq hx hb top.toInt (rfl) d_Mo_span_75 (tgt := 85) (by decide) (fun h8 => ?_) (fun h8 => ?_)
              · skip
                refine lv_aload_n hx hb d_Mo_span_85 rfl (lv_at hl 0 rfl) ?_
                refine mo_getj hC hK hM 24 wf_Mo_179 rfl rfl (by decide) (v := iL ((spT (T q) (bx6 x.toInt u.toInt y.toInt v.toInt z.toInt w.toInt)).1)) (hlo_p7) d_Mo_span_86 ?_
                refine lv_l2i (v := iI ((spT (T q) (bx6 x.toInt u.toInt y.toInt v.toInt z.toInt w.toInt)).1)) hx hb d_Mo_span_89 (iL_i (by omega) (by omega)) ?_
                exact hret _ _ _ _ _ _ _ _ _ d_Mo_span_90 hM (⟨rfl, rfl, by rw [if_pos (by omega), hqt, if_pos (Int32.toInt_inj.mp h8)]; rfl⟩)
              · skip
                refine lv_aload_n hx hb d_Mo_span_78 rfl (lv_at hl 0 rfl) ?_
                refine mo_getj hC hK hM 25 wf_Mo_183 rfl rfl (by decide) (v := iL ((spT (T q) (bx6 x.toInt u.toInt y.toInt v.toInt z.toInt w.toInt)).2)) (hhi_p7) d_Mo_span_79 ?_
                refine lv_goto (tgt := 89) hx hb d_Mo_span_82 (by decide) ?_
                refine lv_l2i (v := iI ((spT (T q) (bx6 x.toInt u.toInt y.toInt v.toInt z.toInt w.toInt)).2)) hx hb d_Mo_span_89 (iL_i (by omega) (by omega)) ?_
                exact hret _ _ _ _ _ _ _ _ _ d_Mo_span_90 hM (⟨rfl, rfl, by rw [if_pos (by omega), hqt, if_neg (by intro e; rw [e] at h8; exact h8 rfl)]; rfl⟩)
            · skip
              refine lv_ldc (v := (-1000000000)) hx hb hC.2.2.2.1 (hC.2.2.2.2 _ wx_Mo_212) d_Mo_span_49 ?_
              exact hret _ _ _ _ _ _ _ _ _ d_Mo_span_51 hM (⟨rfl, rfl, by rw [if_neg (by omega)]⟩)
set_option maxHeartbeats 400000 in
set_option maxRecDepth 100000 in
theorem c_Mo_isWithin (l : Launch) (D : va_G) (cT : Nat → ClassId) (ad : Nat → Nat) (I : Nat → Int32) (J : Nat → Int64) (a : Nat → Nat → Int32) (g : Nat → Nat → Int64) (b : Nat) (x : Int) (y : Int) (z : Int) (t : TX) (hb8 : b < 8) (hT : BDT a b t) (b1 : -1000 ≤ x ∧ x ≤ 1000) (b2 : -1000 ≤ y ∧ y ≤ 1000) (b3 : -1000 ≤ z ∧ z ≤ 1000) : MMi l D cT ad y_Mo_isWithin b_Mo_isWithin 5 (some .boolean) 4 123 [.int (nI b), .int (iI x), .int (iI y), .int (iI z)] I J a g (fun r u => u.1 = I ∧ u.2.2.1 = a ∧ r = bI (vl t x y z < 0)) := by
  refine mo_entz (by decide) rfl (Nat.le_of_ble_eq_true rfl) ?_
  intro p e s m args below meth c Q hC hK hM hret ls hl
  have hx := hC.1
  have hb := hC.2.1
  replace hl : lv_has ls 5 [(0, .ref (ad 46)), (1, .int (nI b)), (2, .int (iI x)), (3, .int (iI y)), (4, .int (iI z))] := hl
  refine lv_aload_n hx hb d_Mo_isWithin_0 rfl (lv_at hl 0 rfl) ?_
  refine lv_iload_n hx hb d_Mo_isWithin_1 rfl (lv_at hl 1 rfl) ?_
  refine lv_iload_n hx hb d_Mo_isWithin_2 rfl (lv_at hl 2 rfl) ?_
  refine lv_i2l (v := iL x) hx hb d_Mo_isWithin_3 (iI_l (z := x) (by omega) (by omega)) ?_
  refine lv_iload_n hx hb d_Mo_isWithin_4 rfl (lv_at hl 3 rfl) ?_
  refine lv_i2l (v := iL y) hx hb d_Mo_isWithin_5 (iI_l (z := y) (by omega) (by omega)) ?_
  refine lv_iload hx hb d_Mo_isWithin_6 (lv_at hl 4 rfl) ?_
  refine lv_i2l (v := iL z) hx hb d_Mo_isWithin_8 (iI_l (z := z) (by omega) (by omega)) ?_
  refine lv_iload_n hx hb d_Mo_isWithin_9 rfl (lv_at hl 2 rfl) ?_
  refine lv_i2l (v := iL x) hx hb d_Mo_isWithin_10 (iI_l (z := x) (by omega) (by omega)) ?_
  refine lv_iload_n hx hb d_Mo_isWithin_11 rfl (lv_at hl 3 rfl) ?_
  refine lv_i2l (v := iL y) hx hb d_Mo_isWithin_12 (iI_l (z := y) (by omega) (by omega)) ?_
  refine lv_iload hx hb d_Mo_isWithin_13 (lv_at hl 4 rfl) ?_
  refine lv_i2l (v := iL z) hx hb d_Mo_isWithin_15 (iI_l (z := z) (by omega) (by omega)) ?_
  refine mo_callv (np := 7) hC hK hM (c_Mo_spans l D cT ad I J a g b (t).1 (t).2.1 (t).2.2.1 (t).2.2.2 (bx6 x x y y z z) (by omega) (hT) (bx6_b (by omega))) rfl ⟨wl_Mo_213, wi_Mo_spans, ws_Mo_spans, wc_Mo_spans, wn_Mo⟩ ⟨by decide, by decide, by decide +kernel⟩ ⟨Nat.le_of_ble_eq_true rfl, Nat.le_of_ble_eq_true rfl⟩ hl.1 rfl (rest := []) rfl (Nat.le_of_ble_eq_true rfl) ⟨Nat.zero_le _, Nat.zero_le _⟩ d_Mo_isWithin_16 (fun I1 J1 a1 g1 H locs hp1 hM => ?_)
  obtain ⟨hI_p1, hA_p1, hlo_p1, hhi_p1⟩ := hp1
  replace hI_p1 : I1 = I := hI_p1
  replace hA_p1 : a1 = a := hA_p1
  replace hlo_p1 : J1 24 = iL (spT (t) (bx6 x x y y z z)).1 := hlo_p1
  replace hhi_p1 : J1 25 = iL (spT (t) (bx6 x x y y z z)).2 := hhi_p1
  rw [hI_p1, hA_p1] at hM
  have hv_p1 := sp_b (B := (bx6 x x y y z z)) (hT) (bx6_b (by omega))
  unfold vb at hv_p1
  refine lv_aload_n hx hb d_Mo_isWithin_19 rfl (lv_at hl 0 rfl) ?_
  refine mo_getj hC hK hM 24 wf_Mo_179 rfl rfl (by decide) (v := iL ((spT (t) (bx6 x x y y z z)).1)) (hlo_p1) d_Mo_isWithin_20 ?_
  refine lv_lconst (v := 0) hx hb d_Mo_isWithin_23 (by decide) ?_
  refine zl_ge hx hb ((spT (t) (bx6 x x y y z z)).1) 0 (by omega) (by omega) (by omega) (by omega) d_Mo_isWithin_24 d_Mo_isWithin_25 (tgt := 32) (by decide) (fun h2 => ?_) (fun h2 => ?_)
  · skip
    refine lv_iconst (v := 0) hx hb d_Mo_isWithin_32 (by decide) ?_
    exact hret _ _ _ _ _ _ _ _ _ d_Mo_isWithin_33 (by first | exact Or.inl rfl | exact Or.inr rfl | assumption) hM (⟨rfl, rfl, (bI_f (show ¬ (spT t _).1 < 0 by assumption)).symm⟩)
  · skip
    refine lv_iconst (v := 1) hx hb d_Mo_isWithin_28 (by decide) ?_
    refine lv_goto (tgt := 33) hx hb d_Mo_isWithin_29 (by decide) ?_
    exact hret _ _ _ _ _ _ _ _ _ d_Mo_isWithin_33 (by first | exact Or.inl rfl | exact Or.inr rfl | assumption) hM (⟨rfl, rfl, (bI_t (show (spT t _).1 < 0 by assumption)).symm⟩)
set_option maxHeartbeats 400000 in
set_option maxRecDepth 100000 in
theorem c_Mo_ask (l : Launch) (D : va_G) (cT : Nat → ClassId) (ad : Nat → Nat) (I : Nat → Int32) (J : Nat → Int64) (a : Nat → Nat → Int32) (g : Nat → Nat → Int64) (b : Nat) (t : TX) (hb8 : b < 8) (hT : BDT a b t) : MMv l D cT ad y_Mo_ask b_Mo_ask 3 none 5 147 [.int (nI b)] I J a g (fun u => u.1 = I ∧ u.2.2.1 = va_up a 33 (pt (a 33) (wi t) 0 3375)) := by
  refine mo_entv (by decide) rfl (Nat.le_of_ble_eq_true rfl) ?_
  intro p e s m args below meth c Q hC hK hM hret ls hl
  have hx := hC.1
  have hb := hC.2.1
  replace hl : lv_has ls 3 [(0, .ref (ad 46)), (1, .int (nI b))] := hl
  refine lv_iconst (v := 0) hx hb d_Mo_ask_0 (by decide) ?_
  refine lv_istore_n (lv' := [(2, .int 0), (0, .ref (ad 46)), (1, .int (nI b))]) hx hb d_Mo_ask_1 rfl hl (by decide) rfl (fun ls hl => ?_)
  have hL2 : ∀ (nn : Nat) (k : Nat) (J2 : Nat → Int64) (g2 : Nat → Nat → Int64) (H : Heap) (locs : List Loc) (ls : Array Slot), 3375 - k < nn → (k ≤ 3375) → MO D cT ad I J2 (va_up a 33 (pt (a 33) (wi t) 0 k)) g2 s.heap H locs → lv_has ls 3 [(0, .ref (ad 46)), (1, .int (nI b)), (2, .int (nI k))] → W p l e (rmOf 5 147) s m args below meth c H locs 0 0 Q (F0 m 2 ls []) := by
    intro nn
    induction nn with
    | zero =>
      intro k J2 g2 H locs ls hmeas2 hk hM hl
      exact absurd hmeas2 (Nat.not_lt_zero _)
    | succ nn ih2 =>
      intro k J2 g2 H locs ls hmeas2 hk hM hl
      refine lv_iload_n hx hb d_Mo_ask_2 rfl (lv_at hl 2 rfl) ?_
      refine lv_sipush (v := 3375) hx hb d_Mo_ask_3 (by decide) ?_
      refine nc_ge hx hb k 3375 (by omega) (by omega) d_Mo_ask_6 (tgt := 51) (by decide) (fun h1 => ?_) (fun h1 => ?_)
      · skip
        refine hret _ _ _ _ _ _ _ _ d_Mo_ask_51 hM ?_
        obtain rfl : k = 3375 := by omega
        exact ⟨rfl, rfl⟩
      · skip
        refine lv_aload_n hx hb d_Mo_ask_9 rfl (lv_at hl 0 rfl) ?_
        refine mo_getr hC hK hM 33 wf_Mo_59 rfl (by decide) (by decide) d_Mo_ask_10 ?_
        refine lv_iload_n hx hb d_Mo_ask_13 rfl (lv_at hl 2 rfl) ?_
        refine lv_aload_n hx hb d_Mo_ask_14 rfl (lv_at hl 0 rfl) ?_
        refine lv_iload_n hx hb d_Mo_ask_15 rfl (lv_at hl 1 rfl) ?_
        refine lv_iload_n hx hb d_Mo_ask_16 rfl (lv_at hl 2 rfl) ?_
        refine lv_bipush (v := 15) hx hb d_Mo_ask_17 (by decide) ?_
        refine iremN hx hb k 15 (by omega) (by decide) (by decide) d_Mo_ask_19 ?_
        refine lv_bipush (v := 7) hx hb d_Mo_ask_20 (by decide) ?_
        refine lv_isub hx hb d_Mo_ask_22 ?_
        refine topi_eq (iI_sub (↑(k % 15) : Int) 7) ?_
        refine lv_iload_n hx hb d_Mo_ask_23 rfl (lv_at hl 2 rfl) ?_
        refine lv_bipush (v := 15) hx hb d_Mo_ask_24 (by decide) ?_
        refine idivN hx hb k 15 (by omega) (by decide) (by decide) d_Mo_ask_26 ?_
        refine lv_bipush (v := 15) hx hb d_Mo_ask_27 (by decide) ?_
        refine iremN hx hb (k / 15) 15 (by omega) (by decide) (by decide) d_Mo_ask_29 ?_
        refine lv_bipush (v := 7) hx hb d_Mo_ask_30 (by decide) ?_
        refine lv_isub hx hb d_Mo_ask_32 ?_
        refine topi_eq (iI_sub (↑((k / 15) % 15) : Int) 7) ?_
        refine lv_iload_n hx hb d_Mo_ask_33 rfl (lv_at hl 2 rfl) ?_
        refine lv_sipush (v := 225) hx hb d_Mo_ask_34 (by decide) ?_
        refine idivN hx hb k 225 (by omega) (by decide) (by decide) d_Mo_ask_37 ?_
        refine lv_bipush (v := 7) hx hb d_Mo_ask_38 (by decide) ?_
        refine lv_isub hx hb d_Mo_ask_40 ?_
        refine topi_eq (iI_sub (↑(k / 225) : Int) 7) ?_
        refine mo_calli (np := 4) hC hK hM (c_Mo_isWithin l D cT ad I J2 (va_up a 33 (pt (a 33) (wi t) 0 k)) g2 b ((↑(k % 15) : Int) - 7) ((↑((k / 15) % 15) : Int) - 7) ((↑(k / 225) : Int) - 7) (t) (by omega) (BDT_of hT rfl rfl rfl rfl) (by omega) (by omega) (by omega)) rfl ⟨wl_Mo_252, wi_Mo_isWithin, ws_Mo_isWithin, wc_Mo_isWithin, wn_Mo⟩ ⟨by decide, by decide, by decide +kernel⟩ ⟨Nat.le_of_ble_eq_true rfl, Nat.le_of_ble_eq_true rfl⟩ hl.1 rfl (rest := [.int (nI k), .ref (ad 33)]) rfl (Nat.le_of_ble_eq_true rfl) ⟨Nat.zero_le _, Nat.zero_le _⟩ d_Mo_ask_41 (fun rr2 I3 J3 a3 g3 H locs hp3 hM => ?_)
        obtain ⟨hI_p3, hA_p3, hr_p3⟩ := hp3
        replace hI_p3 : I3 = I := hI_p3
        replace hA_p3 : a3 = va_up a 33 (pt (a 33) (wi t) 0 k) := hA_p3
        rw [hI_p3, hA_p3] at hM
        subst hr_p3
        refine mo_zastN hC hK hM 33 k (by decide) rfl (n := 3375) rfl (by decide) (i := nI k) (x := bI (vl (t) ((↑(k % 15) : Int) - 7) ((↑((k / 15) % 15) : Int) - 7) ((↑(k / 225) : Int) - 7) < 0)) (rfl) (by omega) (by first | exact Or.inl rfl | exact Or.inr rfl | exact bI_01) d_Mo_ask_44 (fun H locs hM => ?_)
        rw [bx_uu] at hM
        replace hM : MO D cT ad I J3 (va_up a 33 (upd (pt (a 33) (wi t) 0 k) k (bI (vl (t) ((↑(k % 15) : Int) - 7) ((↑((k / 15) % 15) : Int) - 7) ((↑(k / 225) : Int) - 7) < 0)))) g3 s.heap H locs := hM
        refine lv_iinc (v := nI (k + 1)) (lv' := [(2, .int (nI (k + 1))), (0, .ref (ad 46)), (1, .int (nI b))]) hx hb d_Mo_ask_45 hl (k := 2) rfl (nI_add k 1) (by decide) rfl (fun ls hl => ?_)
        refine lv_goto (tgt := 2) hx hb d_Mo_ask_48 (by decide) ?_
        rw [show bI (vl t ((↑(k % 15) : Int) - 7) ((↑(k / 15 % 15) : Int) - 7) ((↑(k / 225) : Int) - 7) < 0) = wi t k from bI_c (by unfold vw; rw [decide_eq_true_iff])] at hM
        exact ih2 (k + 1) _ _ _ _ _ (by omega) (by omega) (by rw [← pt_succ (x := wi t k) _ _ _ _ rfl, Nat.zero_add]; exact hM) (lv_sub hl [1, 2, 0] rfl)
  exact hL2 _ 0 _ _ _ _ _ (Nat.lt_succ_self _) (by omega) (by rw [pt_0, up_same]; exact hM) (lv_sub hl [1, 2, 0] rfl)
