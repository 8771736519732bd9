/-! the class: its reader -/
set_option maxHeartbeats 1000000 in
set_option maxRecDepth 100000 in
theorem rt_zero (l : Launch) (D : va_G) (cT : Nat → ClassId) (adK adV : Nat → Nat) (N0 tl : Nat) (tb : Nat → Nat) : RTc l D cT adK adV N0 tl tb 0 := by
  intro X I a sz ov s0 hN hT hg h35 hto ht3
  refine ca_entq (own := R_Rd) (by decide) rfl (Nat.le_of_ble_eq_true rfl) ?_
  intro p e s m args below meth c Q hC hK hM hZ hAs hA2 hret ls hl
  have hx := hC.1
  have hb := hC.2.1
  replace hl : lv_has ls 6 [(0, .ref (X.1 3)), (1, .int (nI (11 - 0)))] := hl
  refine lv_aload_n hx hb d_Rd_readText_0 rfl (lv_at hl 0 rfl) ?_
  refine rd_get hC in_Rd hK hM.1 3 (cw_he (by omega) (cE_3)) rfl 6 (by decide) wf_Rd_27 rfl (v := .int 0) (congrArg (fun z : Int32 => some (Value.int z)) (hg.1)) d_Rd_readText_1 ?_
  refine lv_if_ne (tgt := 22) hx hb d_Rd_readText_4 (by decide) (fun h1 => ?_) (fun h1 => ?_)
  · exact absurd h1 (by decide)
  · skip
    refine lv_iload_n hx hb d_Rd_readText_7 rfl (lv_at hl 1 rfl) ?_
    refine lv_bipush (v := 10) hx hb d_Rd_readText_8 (by decide) ?_
    refine nc_le hx hb (11 - 0) 10 (by omega) (by omega) d_Rd_readText_10 (tgt := 22) (by decide) (fun h2 => ?_) (fun h2 => ?_)
    · first | contradiction | (exfalso; omega)
    · skip
      refine lv_aload_n hx hb d_Rd_readText_13 rfl (lv_at hl 0 rfl) ?_
      refine lv_iconst (v := 4) hx hb d_Rd_readText_14 (by decide) ?_
      refine lv_aload_n hx hb d_Rd_readText_15 rfl (lv_at hl 0 rfl) ?_
      refine rd_get hC in_Rd hK hM.1 3 (cw_he (by omega) (cE_3)) rfl 3 (by decide) wf_Rd_18 rfl (v := .int (I 33)) (rfl) d_Rd_readText_16 ?_
      have hm9 := c_Rd_fail l D cT (XF X (X.2.2.2.2)) I a 4 (I 33)
      refine co_callv (np := 2) hC hK hM (k := 3) (by omega) (cE_3) rfl hm9 rfl ⟨wl_Rd_44, wi_Rd_fail, ws_Rd_fail, wc_Rd_fail, wn_Rd⟩ ⟨by decide, by decide, by decide +kernel⟩ ⟨by show _ ≤ 7 + 0; omega, by show _ ≤ 170 + 25 * 0; omega⟩ hl.1 rfl (rest := []) rfl (Nat.le_of_ble_eq_true rfl) ⟨Nat.zero_le _, Nat.zero_le _⟩ d_Rd_readText_19 (fun I3 a3 H locs hp3 hM => ?_)
      cases hp3
      refine lv_aload_n hx hb d_Rd_readText_22 rfl (lv_at hl 0 rfl) ?_
      refine rd_get hC in_Rd hK hM.1 3 (cw_he (by omega) (cE_3)) rfl 6 (by decide) wf_Rd_27 rfl (v := .int 4) (congrArg (fun z : Int32 => some (Value.int z)) ((pk_un (by omega)).trans (pk_us))) d_Rd_readText_23 ?_
      refine lv_if_ne (tgt := 46) hx hb d_Rd_readText_26 (by decide) (fun h4 => ?_) (fun h4 => ?_)
      · skip
        refine lv_aload_n hx hb d_Rd_readText_46 rfl (lv_at hl 0 rfl) ?_
        refine rd_get hC in_Rd hK hM.1 3 (cw_he (by omega) (cE_3)) rfl 6 (by decide) wf_Rd_27 rfl (v := .int 4) (congrArg (fun z : Int32 => some (Value.int z)) ((pk_un (by omega)).trans (pk_us))) d_Rd_readText_47 ?_
        refine lv_if_eq (tgt := 55) hx hb d_Rd_readText_50 (by decide) (fun h5 => ?_) (fun h5 => ?_)
        · exact absurd h5 (by decide)
        · skip
          refine lv_null hx hb d_Rd_readText_53 ?_
          exact hret _ _ _ none _ _ _ _ _ _ d_Rd_readText_54 rfl hM (by omega) (by omega) (rtQ_f (f := (4, s0.t.2.1)) rfl (fun q9 hq9 => (pk_un (by omega)).trans (pk_un (by omega))) ⟨[], (List.append_nil _).symm⟩ rfl hg.2.2.2.1 ⟨by show 0 < 4; omega, by show 4 ≤ 4; omega⟩)
      · exact absurd h4 (by decide)
theorem c_Rd_readText (l : Launch) (D : va_G) (cT : Nat → ClassId) (adK adV : Nat → Nat) (N0 tl : Nat) (tb : Nat → Nat) : ∀ d, d ≤ 10 → RTc l D cT adK adV N0 tl tb d
  | 0, _ => rt_zero l D cT adK adV N0 tl tb
  | d + 1, hd => rt_succ l D cT adK adV N0 tl tb d (by omega) (fun h => c_Rd_readText l D cT adK adV N0 tl tb d h)
def rdQ (tl : Nat) (tb : Nat → Nat) (X : CX) (I : Nat → Int32) (o : Option Nat) (u : va_W × (Nat → Int32)) : Prop := (∀ q, ¬ (31 ≤ q ∧ q ≤ 37) → u.2 q = I q) ∧ (∃ G, u.1 = X.2.2.2.2 ++ G) ∧ (∀ f, prW tl tb = .inl f → o = none ∧ u.2 36 = nI f.1 ∧ u.2 37 = nI f.2) ∧ (∀ s1, prW tl tb = .inr s1 → ∃ r, o = some r ∧ FT u.1 s1.kd s1.nb 10 0 r ∧ u.2 35 = nI s1.many ∧ u.2 36 = 0)
theorem rdQ_f {tl : Nat} {tb : Nat → Nat} {X : CX} {I I' : Nat → Int32} {F : va_W} {f : FA} (hp : prW tl tb = .inl f) (hfr : ∀ q, ¬ (31 ≤ q ∧ q ≤ 37) → I' q = I q) (hG : ∃ G, F = X.2.2.2.2 ++ G) (h36 : I' 36 = nI f.1) (h37 : I' 37 = nI f.2) : rdQ tl tb X I none (F, I') := ⟨hfr, hG, (fun f' hf => by rw [hp] at hf; cases hf; exact ⟨rfl, h36, h37⟩), fun s1 hs => by rw [hp] at hs; cases hs⟩
theorem rdQ_s {tl : Nat} {tb : Nat → Nat} {X : CX} {I I' : Nat → Int32} {F : va_W} {s1 : PS} {q : Nat} (hp : prW tl tb = .inr s1) (hfr : ∀ q, ¬ (31 ≤ q ∧ q ≤ 37) → I' q = I q) (hG : ∃ G, F = X.2.2.2.2 ++ G) (hF : FT F s1.kd s1.nb 10 0 q) (h35 : I' 35 = nI s1.many) (h36 : I' 36 = 0) : rdQ tl tb X I (some q) (F, I') := ⟨hfr, hG, (fun f hf => by rw [hp] at hf; cases hf), fun s2 hs => by rw [hp] at hs; cases hs; exact ⟨q, rfl, hF, h35, h36⟩⟩
theorem cnt54 {tl : Nat} {tb : Nat → Nat} (h : tl ≤ 160) : cnt tl tb 10 0 (s00 tl tb) ≤ 54 := by
  obtain ⟨k1, k2⟩ := s00_ok (tl := tl) (tb := tb) h
  have := (prs_q h 10 0 _ k1 k2 (show (s00 tl tb).many ≤ 54 from Nat.zero_le _)).1
  have e : (s00 tl tb).many = 0 := rfl
  omega
set_option maxHeartbeats 2000000 in
set_option maxRecDepth 100000 in
theorem c_Rd_read (l : Launch) (D : va_G) (cT : Nat → ClassId) (X : CX) (I : Nat → Int32) (a : Nat → Nat → Int32) (sz : Nat) (adK adV : Nat → Nat) (N0 tl : Nat) (tb : Nat → Nat) (hN : ∀ q, CA X q → N0 ≤ q) (hT : CTp I a tl tb) : CAq l D cT X y_Rd_read b_Rd_read 2 (some (.object "SignSolids$Form")) 18 445 108 648 [.ref (X.1 3)] I a sz adK adV N0 (rdQ tl tb X I) := by
  refine ca_entq (own := R_Rd) (by decide) rfl (Nat.le_of_ble_eq_true rfl) ?_
  intro p e s m args below meth c Q hC hK hM hZ hAs hA2 hret ls hl
  have hx := hC.1
  have hb := hC.2.1
  have hAN : ∀ q, cA X sz q → N0 ≤ q := fun q hq => (hA2 q hq).elim (hN q) id
  have htb : ∀ j, j < tl → tb j < 256 := fun j hj => (hT.2.2 j hj).2
  have h160 := hT.2.1
  have h54 := cnt54 (tb := tb) h160
  replace hl : lv_has ls 2 [(0, .ref (X.1 3))] := hl
  refine lv_aload_n hx hb d_Rd_read_0 rfl (lv_at hl 0 rfl) ?_
  refine lv_iconst (v := 0) hx hb d_Rd_read_1 (by decide) ?_
  refine co_put hC in_Rd t_Rd t_Rd_ok n_Rd hK hM 3 (by omega) (cE_3) rfl 1 (by decide) wf_Rd_9 rfl rfl (ty := .int) (by decide +kernel) (x := 0) rfl rfl (Nat.le_of_ble_eq_true rfl) (by decide) (rfl) d_Rd_read_2 (fun H locs hM => ?_)
  replace hM : CO D cT (cA X sz) (XF X (X.2.2.2.2)) (upd I 31 0) a s.heap H locs := hM
  refine lv_aload_n hx hb d_Rd_read_5 rfl (lv_at hl 0 rfl) ?_
  refine lv_iconst (v := 0) hx hb d_Rd_read_6 (by decide) ?_
  refine co_put hC in_Rd t_Rd t_Rd_ok n_Rd hK hM 3 (by omega) (cE_3) rfl 5 (by decide) wf_Rd_24 rfl rfl (ty := .int) (by decide +kernel) (x := 0) rfl rfl (Nat.le_of_ble_eq_true rfl) (by decide) (rfl) d_Rd_read_7 (fun H locs hM => ?_)
  replace hM : CO D cT (cA X sz) (XF X (X.2.2.2.2)) (upd (upd I 31 0) 35 0) a s.heap H locs := hM
  refine lv_aload_n hx hb d_Rd_read_10 rfl (lv_at hl 0 rfl) ?_
  refine lv_iconst (v := 0) hx hb d_Rd_read_11 (by decide) ?_
  refine co_put hC in_Rd t_Rd t_Rd_ok n_Rd hK hM 3 (by omega) (cE_3) rfl 6 (by decide) wf_Rd_27 rfl rfl (ty := .int) (by decide +kernel) (x := 0) rfl rfl (Nat.le_of_ble_eq_true rfl) (by decide) (rfl) d_Rd_read_12 (fun H locs hM => ?_)
  replace hM : CO D cT (cA X sz) (XF X (X.2.2.2.2)) (upd (upd (upd I 31 0) 35 0) 36 0) a s.heap H locs := hM
  refine lv_aload_n hx hb d_Rd_read_15 rfl (lv_at hl 0 rfl) ?_
  refine lv_iconst (v := 0) hx hb d_Rd_read_16 (by decide) ?_
  refine co_put hC in_Rd t_Rd t_Rd_ok n_Rd hK hM 3 (by omega) (cE_3) rfl 7 (by decide) wf_Rd_30 rfl rfl (ty := .int) (by decide +kernel) (x := 0) rfl rfl (Nat.le_of_ble_eq_true rfl) (by decide) (rfl) d_Rd_read_17 (fun H locs hM => ?_)
  replace hM : CO D cT (cA X sz) (XF X (X.2.2.2.2)) (upd (upd (upd (upd I 31 0) 35 0) 36 0) 37 0) a s.heap H locs := hM
  refine lv_aload_n hx hb d_Rd_read_20 rfl (lv_at hl 0 rfl) ?_
  have hm9 := c_Rd_readToken l D cT (XF X (X.2.2.2.2)) (upd (upd (upd (upd I 31 0) 35 0) 36 0) 37 0) a adK adV N0 tl 0 tb (fun q9 hq9 => hAN q9 (ca_in hM q9 hq9)) hT rfl rfl (Nat.zero_le _)
  refine cz_callv (np := 0) hC hK hM hZ hAN (k := 3) (by omega) (cE_3) rfl hm9 rfl ⟨wl_Rd_37, wi_Rd_readToken, ws_Rd_readToken, wc_Rd_readToken, wn_Rd⟩ ⟨by decide, by decide, by decide +kernel⟩ ⟨Nat.le_of_ble_eq_true rfl, Nat.le_of_ble_eq_true rfl⟩ hl.1 rfl (rest := []) rfl (Nat.le_of_ble_eq_true rfl) ⟨by show _ ≤ 108; omega, by show _ ≤ 648; omega⟩ d_Rd_read_21 (fun I1 a1 H locs hp1 hM => ?_)
  obtain ⟨e1_p1, hf_p1, ht_p1⟩ := hp1
  replace e1_p1 : a1 = a := e1_p1
  cases e1_p1
  have hfr9 : ∀ q, ¬ (31 ≤ q ∧ q ≤ 37) → I1 q = I q := fun q9 hq9 => (hf_p1 q9 (Or.inl hq9)).trans (by show upd _ _ _ q9 = _; (repeat rw [pk_un (by omega)]))
  by_cases h3 : (tok tl tb 0).1 = 3
  · skip
    have hw : prW tl tb = .inl (1, (tok tl tb 0).2.1) := if_pos h3
    have hv := ht_p1.2.1 h3
    refine lv_aload_n hx hb d_Rd_read_24 rfl (lv_at hl 0 rfl) ?_
    refine lv_iconst (v := 1) hx hb d_Rd_read_25 (by decide) ?_
    have hm9 := c_Rd_readText_f l D cT (XF X (X.2.2.2.2)) I1 a 1 1 hv.1 ⟨by omega, by omega⟩
    refine co_callq (np := 1) hC hK hM (k := 3) (by omega) (cE_3) rfl hm9 rfl ⟨wl_Rd_40, wi_Rd_readText, ws_Rd_readText, wc_Rd_readText, wn_Rd⟩ ⟨by decide, by decide, by decide +kernel⟩ ⟨Nat.le_of_ble_eq_true rfl, Nat.le_of_ble_eq_true rfl⟩ hl.1 rfl (rest := []) rfl (Nat.le_of_ble_eq_true rfl) ⟨by show _ ≤ 108; omega, by show _ ≤ 648; omega⟩ d_Rd_read_26 (fun rr2 I2 a2 H locs hp2 hM => ?_)
    obtain ⟨hr2, hp2⟩ := hp2
    cases hp2
    subst hr2
    refine lv_astore_nN (lv' := [(1, .null), (0, .ref (X.1 3))]) hx hb d_Rd_read_29 rfl hl (by decide) rfl (fun ls hl => ?_)
    refine lv_aload_n hx hb d_Rd_read_30 rfl (lv_at hl 1 rfl) ?_
    refine rd_get hC in_Rd hK hM.1 3 (cw_he (by omega) (cE_3)) rfl 6 (by decide) wf_Rd_27 rfl (v := .int (nI 1)) (congrArg (fun z : Int32 => some (Value.int z)) (hv.1)) d_Rd_read_31 ?_
    refine nz_ne hx hb 1 (by omega) d_Rd_read_34 (tgt := 53) (by decide) (fun h3 => ?_) (fun h3 => ?_)
    · skip
      refine lv_aload_n hx hb d_Rd_read_53 rfl (lv_at hl 1 rfl) ?_
      refine rd_get hC in_Rd hK hM.1 3 (cw_he (by omega) (cE_3)) rfl 6 (by decide) wf_Rd_27 rfl (v := .int (nI 1)) (congrArg (fun z : Int32 => some (Value.int z)) (hv.1)) d_Rd_read_54 ?_
      refine nz_ne hx hb 1 (by omega) d_Rd_read_57 (tgt := 64) (by decide) (fun h4 => ?_) (fun h4 => ?_)
      · skip
        refine lv_null hx hb d_Rd_read_64 ?_
        exact hret _ _ _ none _ _ _ _ _ _ d_Rd_read_65 rfl hM (by omega) (by omega) (rdQ_f hw hfr9 ⟨[], (List.append_nil _).symm⟩ hv.1 hv.2)
      · first | contradiction | (exfalso; omega)
    · first | contradiction | (exfalso; omega)
  · skip
    have hg := TKC_g ht_p1 h3
    obtain ⟨k1, k2⟩ := s00_ok (tl := tl) (tb := tb) h160
    have hRS : RES tl tb = prs tl tb 10 0 (s00 tl tb) := if_neg h3
    refine lv_aload_n hx hb d_Rd_read_24 rfl (lv_at hl 0 rfl) ?_
    refine lv_iconst (v := 1) hx hb d_Rd_read_25 (by decide) ?_
    have hm8 := c_Rd_readText l D cT adK adV N0 tl tb 10 (Nat.le_refl _) (XF X X.2.2.2.2) I1 a H.size 0 (s00 tl tb) (fun q9 hq9 => hAN q9 (ca_in hM q9 hq9)) ⟨(hfr9 11 (by omega)).trans hT.1, hT.2⟩ hg ((hf_p1 35 (Or.inr rfl)).trans rfl) k1 (tok_b (by omega) htb 0).1
    refine ca_callq (np := 1) (k := 3) hC hK hM hZ hAN hAs (by omega) cE_3 rfl hm8 rfl ⟨wl_Rd_40, wi_Rd_readText, ws_Rd_readText, wc_Rd_readText, wn_Rd⟩ ⟨by decide, by decide, by decide +kernel⟩ ⟨Nat.le_of_ble_eq_true rfl, Nat.le_of_ble_eq_true rfl⟩ hl.1 rfl (rest := []) rfl (Nat.le_of_ble_eq_true rfl) ⟨by show _ ≤ 108; omega, by show _ ≤ 648; omega⟩ d_Rd_read_26 (fun o1 F1 J1 H locs hp1 hM => ?_)
    obtain ⟨hcf1, ⟨G1, hG1⟩, hci1, hcs1⟩ := hp1
    replace hG1 : F1 = X.2.2.2.2 ++ G1 := hG1
    subst hG1
    replace hM : CO D cT (cA X sz) (XF X (X.2.2.2.2 ++ G1)) J1 a s.heap H locs := hM
    replace hcf1 : ∀ q, ¬ (31 ≤ q ∧ q ≤ 37) → J1 q = I1 q := hcf1
    cases hpr : prs tl tb 10 0 (s00 tl tb) with
    | inl f =>
      obtain ⟨rfl, hg36, hg37, hg1⟩ := hci1 f hpr
      have hw := prW_f (hRS.trans hpr)
      refine lv_astore_nN (lv' := [(1, .null), (0, .ref (X.1 3))]) hx hb d_Rd_read_29 rfl hl (by decide) rfl (fun ls hl => ?_)
      refine lv_aload_n hx hb d_Rd_read_30 rfl (lv_at hl 1 rfl) ?_
      refine rd_get hC in_Rd hK hM.1 3 (cw_he (by omega) (cE_3)) rfl 6 (by decide) wf_Rd_27 rfl (v := .int (nI f.1)) (congrArg (fun z : Int32 => some (Value.int z)) (hg36)) d_Rd_read_31 ?_
      refine nz_ne hx hb f.1 (by omega) d_Rd_read_34 (tgt := 53) (by decide) (fun h5 => ?_) (fun h5 => ?_)
      · skip
        refine lv_aload_n hx hb d_Rd_read_53 rfl (lv_at hl 1 rfl) ?_
        refine rd_get hC in_Rd hK hM.1 3 (cw_he (by omega) (cE_3)) rfl 6 (by decide) wf_Rd_27 rfl (v := .int (nI f.1)) (congrArg (fun z : Int32 => some (Value.int z)) (hg36)) d_Rd_read_54 ?_
        refine nz_ne hx hb f.1 (by omega) d_Rd_read_57 (tgt := 64) (by decide) (fun h6 => ?_) (fun h6 => ?_)
        · skip
          refine lv_null hx hb d_Rd_read_64 ?_
          exact hret _ _ _ none _ _ _ _ _ _ d_Rd_read_65 rfl hM (by omega) (by omega) (rdQ_f hw (fun q9 hq9 => (hcf1 q9 hq9).trans (hfr9 q9 hq9)) ⟨_, rfl⟩ hg36 hg37)
        · first | contradiction | (exfalso; omega)
      · first | contradiction | (exfalso; omega)
    | inr s1 =>
      obtain ⟨r1, rfl, hFT1, hg35, hgt⟩ := hcs1 s1 hpr
      have hw := prW_s (hRS.trans hpr)
      have ht9 := prs_t3 (by omega) htb _ _ _ _ (tok_b (by omega) htb 0).1 hpr
      refine lv_astore_n (lv' := [(1, .ref r1), (0, .ref (X.1 3))]) hx hb d_Rd_read_29 rfl hl (by decide) rfl (fun ls hl => ?_)
      refine lv_aload_n hx hb d_Rd_read_30 rfl (lv_at hl 1 rfl) ?_
      refine rd_get hC in_Rd hK hM.1 3 (cw_he (by omega) (cE_3)) rfl 6 (by decide) wf_Rd_27 rfl (v := .int 0) (congrArg (fun z : Int32 => some (Value.int z)) (hgt.1)) d_Rd_read_31 ?_
      refine lv_if_ne (tgt := 53) hx hb d_Rd_read_34 (by decide) (fun h7 => ?_) (fun h7 => ?_)
      · exact absurd h7 (by decide)
      · skip
        refine lv_aload_n hx hb d_Rd_read_37 rfl (lv_at hl 1 rfl) ?_
        refine rd_get hC in_Rd hK hM.1 3 (cw_he (by omega) (cE_3)) rfl 2 (by decide) wf_Rd_15 rfl (v := .int (nI s1.t.1)) (congrArg (fun z : Int32 => some (Value.int z)) (hgt.2.2.1)) d_Rd_read_38 ?_
        refine nz_eq hx hb s1.t.1 (by omega) d_Rd_read_41 (tgt := 53) (by decide) (fun h8 => ?_) (fun h8 => ?_)
        · skip
          refine lv_aload_n hx hb d_Rd_read_53 rfl (lv_at hl 1 rfl) ?_
          refine rd_get hC in_Rd hK hM.1 3 (cw_he (by omega) (cE_3)) rfl 6 (by decide) wf_Rd_27 rfl (v := .int 0) (congrArg (fun z : Int32 => some (Value.int z)) (hgt.1)) d_Rd_read_54 ?_
          refine lv_if_ne (tgt := 64) hx hb d_Rd_read_57 (by decide) (fun h9 => ?_) (fun h9 => ?_)
          · exact absurd h9 (by decide)
          · skip
            refine lv_aload_n hx hb d_Rd_read_60 rfl (lv_at hl 0 rfl) ?_
            refine lv_goto (tgt := 65) hx hb d_Rd_read_61 (by decide) ?_
            exact hret _ _ _ (some r1) _ _ _ _ _ _ d_Rd_read_65 rfl hM (by omega) (by omega) (rdQ_s (hw.trans (if_neg (by omega))) (fun q9 hq9 => (hcf1 q9 hq9).trans (hfr9 q9 hq9)) ⟨_, rfl⟩ hFT1 hg35 hgt.1)
        · skip
          refine lv_aload_n hx hb d_Rd_read_44 rfl (lv_at hl 1 rfl) ?_
          refine lv_iconst (v := 2) hx hb d_Rd_read_45 (by decide) ?_
          refine lv_aload_n hx hb d_Rd_read_46 rfl (lv_at hl 1 rfl) ?_
          refine rd_get hC in_Rd hK hM.1 3 (cw_he (by omega) (cE_3)) rfl 3 (by decide) wf_Rd_18 rfl (v := .int (nI s1.t.2.1)) (congrArg (fun z : Int32 => some (Value.int z)) (hgt.2.2.2.1)) d_Rd_read_47 ?_
          have hm9 := c_Rd_fail l D cT (XF X (X.2.2.2.2 ++ G1)) J1 a 2 (nI s1.t.2.1)
          refine co_callv (np := 2) hC hK hM (k := 3) (by omega) (cE_3) rfl hm9 rfl ⟨wl_Rd_44, wi_Rd_fail, ws_Rd_fail, wc_Rd_fail, wn_Rd⟩ ⟨by decide, by decide, by decide +kernel⟩ ⟨Nat.le_of_ble_eq_true rfl, Nat.le_of_ble_eq_true rfl⟩ hl.1 rfl (rest := []) rfl (Nat.le_of_ble_eq_true rfl) ⟨by show _ ≤ 108; omega, by show _ ≤ 648; omega⟩ d_Rd_read_50 (fun I10 a10 H locs hp10 hM => ?_)
          cases hp10
          refine lv_aload_n hx hb d_Rd_read_53 rfl (lv_at hl 1 rfl) ?_
          refine rd_get hC in_Rd hK hM.1 3 (cw_he (by omega) (cE_3)) rfl 6 (by decide) wf_Rd_27 rfl (v := .int 2) (congrArg (fun z : Int32 => some (Value.int z)) ((pk_un (by omega)).trans (pk_us))) d_Rd_read_54 ?_
          refine lv_if_ne (tgt := 64) hx hb d_Rd_read_57 (by decide) (fun h11 => ?_) (fun h11 => ?_)
          · skip
            refine lv_null hx hb d_Rd_read_64 ?_
            exact hret _ _ _ none _ _ _ _ _ _ d_Rd_read_65 rfl hM (by omega) (by omega) (rdQ_f (hw.trans (if_pos (by omega))) (fun q9 hq9 => (pk_un (by omega)).trans ((pk_un (by omega)).trans ((fun q9 hq9 => (hcf1 q9 hq9).trans (hfr9 q9 hq9)) q9 hq9))) ⟨_, rfl⟩ rfl rfl)
          · exact absurd h11 (by decide)
