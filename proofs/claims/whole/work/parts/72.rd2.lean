/-! the class: the reader's next token, its numbers -/
def TKh (I : Nat → Int32) (t : TT) : Prop := I 36 = 0 ∧ I 31 = nI t.2.2.1 ∧ I 32 = nI t.1 ∧ I 33 = nI t.2.1 ∧ (t.1 = 1 ∨ t.1 = 2 → I 34 = iI t.2.2.2)
theorem TKC_g {I : Nat → Int32} {t : TT} (h : TKC I t) (h3 : ¬ t.1 = 3) : TKh I t := ⟨(h.2.2 h3).1, (h.2.2 h3).2.1, (h.2.2 h3).2.2.1, h.1, (h.2.2 h3).2.2.2⟩
theorem TKC_w {I : Nat → Int32} {t : TT} (h : TKC I t) : I 36 = nI (w3 t) := by
  unfold w3
  split
  · exact (h.2.1 (by assumption)).1
  · exact (h.2.2 (by assumption)).1
def rnQ (tl : Nat) (tb : Nat → Nat) (t : TT) (lo : Int) (I : Nat → Int32) (r : Int32) (I' : Nat → Int32) : Prop := (∀ q, ¬ (31 ≤ q ∧ q ≤ 37) ∨ q = 35 → I' q = I q) ∧ (¬ t.1 = 2 → r = 0 ∧ I' 36 = 2 ∧ I' 37 = nI t.2.1) ∧ (t.1 = 2 → ¬ (lo ≤ t.2.2.2 ∧ t.2.2.2 ≤ 20) → r = 0 ∧ I' 36 = 3 ∧ I' 37 = nI t.2.1) ∧ (t.1 = 2 → (lo ≤ t.2.2.2 ∧ t.2.2.2 ≤ 20) → r = iI t.2.2.2 ∧ TKC I' (tok tl tb t.2.2.1))
set_option maxHeartbeats 2000000 in
set_option maxRecDepth 100000 in
theorem c_Rd_readToken (l : Launch) (D : va_G) (cT : Nat → ClassId) (X : CX) (I : Nat → Int32) (a : Nat → Nat → Int32)  (adK adV : Nat → Nat) (N0 : Nat) (tl p0 : Nat) (tb : Nat → Nat) (hN : ∀ q, CA X q → N0 ≤ q) (hT : CTp I a tl tb) (h31 : I 31 = nI p0) (h36 : I 36 = 0) (hp0 : p0 ≤ tl) : CZv l D cT X adK adV N0 y_Rd_readToken b_Rd_readToken 2 none 5 124 [.ref (X.1 3)] I a (fun u => u.2 = a ∧ (∀ q, ¬ (31 ≤ q ∧ q ≤ 37) ∨ q = 35 → u.1 q = I q) ∧ TKC u.1 (tok tl tb p0)) := by
  refine cz_entv (own := R_Rd) (by decide) rfl (Nat.le_of_ble_eq_true rfl) ?_
  intro p e s m args below meth c Q hC hK hM hZ hret ls hl
  have hx := hC.1
  have hb := hC.2.1
  replace hl : lv_has ls 2 [(0, .ref (X.1 3))] := hl
  have htb : ∀ j, j < tl → tb j < 256 := fun j hj => (hT.2.2 j hj).2
  have h160 := hT.2.1
  have hL0 : ∀ (nn : Nat) (k : Nat) (H : Heap) (locs : List Loc) (ls : Array Slot), 400 - k < nn → (skP tl tb k = skP tl tb p0) → (k ≤ tl) → CO D cT (CA X) X (upd I 31 (nI k)) a s.heap H locs → lv_has ls 2 [(0, .ref (X.1 3))] → W p l e (rmOf 5 124) s m args below meth c H locs 0 0 Q (F0 m 0 ls []) := by
    intro nn
    induction nn with
    | zero =>
      intro k H locs ls hmeas0 hsk hkt hM hl
      exact absurd hmeas0 (Nat.not_lt_zero _)
    | succ nn ih0 =>
      intro k H locs ls hmeas0 hsk hkt hM hl
      have hcb_1 := cC_b htb k
      refine lv_aload_n hx hb d_Rd_readToken_0 rfl (lv_at hl 0 rfl) ?_
      refine rd_get hC in_Rd hK hM.1 3 (cw_he (by omega) (cE_3)) rfl 1 (by decide) wf_Rd_9 rfl (v := .int (nI k)) (congrArg (fun z : Int32 => some (Value.int z)) (pk_us)) d_Rd_readToken_1 ?_
      refine lv_sipush (v := 160) hx hb d_Rd_readToken_4 (by decide) ?_
      refine nc_ge hx hb k 160 (by omega) (by omega) d_Rd_readToken_7 (tgt := 39) (by decide) (fun h1 => ?_) (fun h1 => ?_)
      · skip
        replace hsk : skP tl tb p0 = k := by rw [← hsk]; first | exact skC_n (by assumption) | exact skC_e (by omega)
        refine lv_aload_n hx hb d_Rd_readToken_39 rfl (lv_at hl 0 rfl) ?_
        refine lv_aload_n hx hb d_Rd_readToken_40 rfl (lv_at hl 0 rfl) ?_
        refine rd_get hC in_Rd hK hM.1 3 (cw_he (by omega) (cE_3)) rfl 1 (by decide) wf_Rd_9 rfl (v := .int (nI k)) (congrArg (fun z : Int32 => some (Value.int z)) (pk_us)) d_Rd_readToken_41 ?_
        refine co_put hC in_Rd t_Rd t_Rd_ok n_Rd hK hM 3 (by omega) (cE_3) rfl 3 (by decide) wf_Rd_18 rfl rfl (ty := .int) (by decide +kernel) (x := nI k) rfl rfl (Nat.le_of_ble_eq_true rfl) (by decide) (rfl) d_Rd_readToken_44 (fun H locs hM => ?_)
        replace hM : CO D cT (CA X) X (upd (upd I 31 (nI k)) 33 (nI k)) a s.heap H locs := hM
        refine lv_aload_n hx hb d_Rd_readToken_47 rfl (lv_at hl 0 rfl) ?_
        refine rd_get hC in_Rd hK hM.1 3 (cw_he (by omega) (cE_3)) rfl 0 (by decide) wf_Rd_33 rfl (v := .ref (X.1 1)) (rfl) d_Rd_readToken_48 ?_
        refine lv_aload_n hx hb d_Rd_readToken_51 rfl (lv_at hl 0 rfl) ?_
        refine rd_get hC in_Rd hK hM.1 3 (cw_he (by omega) (cE_3)) rfl 1 (by decide) wf_Rd_9 rfl (v := .int (nI k)) (congrArg (fun z : Int32 => some (Value.int z)) ((pk_un (by omega)).trans (pk_us))) d_Rd_readToken_52 ?_
        refine rd_call (np := 1) hC hK hM.1 (cw_he (by omega) (cE_1)) rfl (c_Tp_byteAt l D cT X (upd (upd I 31 (nI k)) 33 (nI k)) a k tl ((pk_un (by omega)).trans ((pk_un (by omega)).trans (hT.1))) hT.2.1 (by omega)) rfl ⟨wl_Rd_92, wi_Tp_byteAt, ws_Tp_byteAt, wc_Tp_byteAt, wn_Tp⟩ ⟨by decide, by decide, by decide +kernel⟩ ⟨Nat.le_of_ble_eq_true rfl, Nat.le_of_ble_eq_true rfl⟩ hl.1 rfl (rest := []) rfl (Nat.le_of_ble_eq_true rfl) ⟨Nat.zero_le _, Nat.zero_le _⟩ d_Rd_readToken_55 (fun rr hrr => ?_)
        replace hrr : rr = iI (cC tl tb k) := hrr.trans (bC_v (fun j hj => (hT.2.2 j hj).1))
        subst hrr
        refine lv_istore_n (lv' := [(1, .int (iI (cC tl tb k))), (0, .ref (X.1 3))]) hx hb d_Rd_readToken_58 rfl hl (by decide) rfl (fun ls hl => ?_)
        refine lv_iload_n hx hb d_Rd_readToken_59 rfl (lv_at hl 0 rfl) ?_
        refine zz_ge hx hb (cC tl tb k) (by omega) (by omega) d_Rd_readToken_60 (tgt := 71) (by decide) (fun h2 => ?_) (fun h2 => ?_)
        · skip
          refine lv_iload_n hx hb d_Rd_readToken_71 rfl (lv_at hl 0 rfl) ?_
          refine st_calli (np := 1) hC (c_Rd_isLetter l (iI (cC tl tb k)) (cC tl tb k) (iI_toInt (z := cC tl tb k) (by omega) (by omega))) ⟨wl_Rd_95, wt_Rd_isLetter, wc_Rd_isLetter, wn_Rd⟩ ⟨by decide, by decide, by decide +kernel⟩ ⟨Nat.le_of_ble_eq_true rfl, Nat.le_of_ble_eq_true rfl⟩ hl.1 rfl (rest := []) rfl (Nat.le_of_ble_eq_true rfl) ⟨Nat.zero_le _, Nat.zero_le _⟩ d_Rd_readToken_72 (fun rr hrr => ?_)
          subst hrr
          refine bz_eq (tgt := 85) hx hb d_Rd_readToken_75 (by decide) (fun h3 => ?_) (fun h3 => ?_)
          · skip
            refine lv_iload_n hx hb d_Rd_readToken_85 rfl (lv_at hl 0 rfl) ?_
            refine st_calli (np := 1) hC (c_Rd_isFigure l (iI (cC tl tb k)) (cC tl tb k) (iI_toInt (z := cC tl tb k) (by omega) (by omega))) ⟨wl_Rd_101, wt_Rd_isFigure, wc_Rd_isFigure, wn_Rd⟩ ⟨by decide, by decide, by decide +kernel⟩ ⟨Nat.le_of_ble_eq_true rfl, Nat.le_of_ble_eq_true rfl⟩ hl.1 rfl (rest := []) rfl (Nat.le_of_ble_eq_true rfl) ⟨Nat.zero_le _, Nat.zero_le _⟩ d_Rd_readToken_86 (fun rr hrr => ?_)
            subst hrr
            refine bz_ne (tgt := 98) hx hb d_Rd_readToken_89 (by decide) (fun h4 => ?_) (fun h4 => ?_)
            · skip
              refine lv_aload_n hx hb d_Rd_readToken_98 rfl (lv_at hl 1 rfl) ?_
              refine co_callv (np := 0) hC hK hM (k := 3) (by omega) (cE_3) rfl (c_Rd_readFigures l D cT X (upd (upd I 31 (nI k)) 33 (nI k)) a tl p0 k tb hT rfl rfl h36 hsk (cC_tl (tl := tl) (tb := tb) (k := k) (by omega)) (fun z => by have := (cC_lt (tl := tl) (tb := tb)).mpr z; omega) (by first | exact Or.inl (cC_fg.mp (by assumption)) | exact Or.inr ((cC_c (c := 45) (by decide)).mp (by omega)))) rfl ⟨wl_Rd_104, wi_Rd_readFigures, ws_Rd_readFigures, wc_Rd_readFigures, wn_Rd⟩ ⟨by decide, by decide, by decide +kernel⟩ ⟨Nat.le_of_ble_eq_true rfl, Nat.le_of_ble_eq_true rfl⟩ hl.1 rfl (rest := []) rfl (Nat.le_of_ble_eq_true rfl) ⟨Nat.zero_le _, Nat.zero_le _⟩ d_Rd_readToken_99 (fun I5 a5 H locs hp5 hM => ?_)
              obtain ⟨e1_p5, hf_p5, ht_p5⟩ := hp5
              replace e1_p5 : a5 = a := e1_p5
              cases e1_p5
              refine lv_goto (tgt := 114) hx hb d_Rd_readToken_102 (by decide) ?_
              exact hret _ _ _ _ _ _ d_Rd_readToken_114 hM (⟨rfl, fun q hq => (hf_p5 q hq).trans (by show upd _ _ _ q = _; (repeat rw [pk_un (by omega)])), ht_p5⟩)
            · skip
              refine lv_iload_n hx hb d_Rd_readToken_92 rfl (lv_at hl 0 rfl) ?_
              refine lv_bipush (v := 45) hx hb d_Rd_readToken_93 (by decide) ?_
              refine zc_ne hx hb (cC tl tb k) 45 (by omega) (by omega) (by omega) (by omega) d_Rd_readToken_95 (tgt := 105) (by decide) (fun h6 => ?_) (fun h6 => ?_)
              · skip
                refine lv_aload_n hx hb d_Rd_readToken_105 rfl (lv_at hl 1 rfl) ?_
                refine lv_iconst (v := 1) hx hb d_Rd_readToken_106 (by decide) ?_
                refine lv_aload_n hx hb d_Rd_readToken_107 rfl (lv_at hl 1 rfl) ?_
                refine rd_get hC in_Rd hK hM.1 3 (cw_he (by omega) (cE_3)) rfl 3 (by decide) wf_Rd_18 rfl (v := .int (nI k)) (congrArg (fun z : Int32 => some (Value.int z)) (pk_us)) d_Rd_readToken_108 ?_
                refine co_callv (np := 2) hC hK hM (k := 3) (by omega) (cE_3) rfl (c_Rd_fail l D cT X (upd (upd I 31 (nI k)) 33 (nI k)) a 1 (nI k)) rfl ⟨wl_Rd_44, wi_Rd_fail, ws_Rd_fail, wc_Rd_fail, wn_Rd⟩ ⟨by decide, by decide, by decide +kernel⟩ ⟨Nat.le_of_ble_eq_true rfl, Nat.le_of_ble_eq_true rfl⟩ hl.1 rfl (rest := []) rfl (Nat.le_of_ble_eq_true rfl) ⟨Nat.zero_le _, Nat.zero_le _⟩ d_Rd_readToken_111 (fun I7 a7 H locs hp7 hM => ?_)
                cases hp7
                refine hret _ _ _ _ _ _ d_Rd_readToken_114 hM ?_
                refine ⟨rfl, fun q hq => by show upd _ _ _ q = _; (repeat rw [pk_un (by omega)]), ?_⟩
                rw [tk_no hsk (fun z => by have := (cC_end (tl := tl) (tb := tb)).mpr z; omega) (fun z => by have := (cC_lt (tl := tl) (tb := tb)).mpr z; omega) (by rintro (z | z); (have := (cC_fg (tl := tl) (tb := tb)).mpr z; omega); (have := (cC_c (tl := tl) (tb := tb) (k := k) (c := 45) (by decide)).mpr z; omega))]
                exact ⟨rfl, fun _ => ⟨rfl, rfl⟩, fun z => absurd rfl z⟩
              · skip
                refine lv_aload_n hx hb d_Rd_readToken_98 rfl (lv_at hl 1 rfl) ?_
                refine co_callv (np := 0) hC hK hM (k := 3) (by omega) (cE_3) rfl (c_Rd_readFigures l D cT X (upd (upd I 31 (nI k)) 33 (nI k)) a tl p0 k tb hT rfl rfl h36 hsk (cC_tl (tl := tl) (tb := tb) (k := k) (by omega)) (fun z => by have := (cC_lt (tl := tl) (tb := tb)).mpr z; omega) (by first | exact Or.inl (cC_fg.mp (by assumption)) | exact Or.inr ((cC_c (c := 45) (by decide)).mp (by omega)))) rfl ⟨wl_Rd_104, wi_Rd_readFigures, ws_Rd_readFigures, wc_Rd_readFigures, wn_Rd⟩ ⟨by decide, by decide, by decide +kernel⟩ ⟨Nat.le_of_ble_eq_true rfl, Nat.le_of_ble_eq_true rfl⟩ hl.1 rfl (rest := []) rfl (Nat.le_of_ble_eq_true rfl) ⟨Nat.zero_le _, Nat.zero_le _⟩ d_Rd_readToken_99 (fun I8 a8 H locs hp8 hM => ?_)
                obtain ⟨e1_p8, hf_p8, ht_p8⟩ := hp8
                replace e1_p8 : a8 = a := e1_p8
                cases e1_p8
                refine lv_goto (tgt := 114) hx hb d_Rd_readToken_102 (by decide) ?_
                exact hret _ _ _ _ _ _ d_Rd_readToken_114 hM (⟨rfl, fun q hq => (hf_p8 q hq).trans (by show upd _ _ _ q = _; (repeat rw [pk_un (by omega)])), ht_p8⟩)
          · skip
            refine lv_aload_n hx hb d_Rd_readToken_78 rfl (lv_at hl 1 rfl) ?_
            refine cz_callv (np := 0) hC hK hM hZ hN (k := 3) (by omega) (cE_3) rfl (c_Rd_readName l D cT X (upd (upd I 31 (nI k)) 33 (nI k)) a adK adV N0 tl p0 k tb hN hT rfl rfl h36 hsk (cC_tl (tl := tl) (tb := tb) (k := k) (by omega)) (cC_lt.mp (by assumption))) rfl ⟨wl_Rd_98, wi_Rd_readName, ws_Rd_readName, wc_Rd_readName, wn_Rd⟩ ⟨by decide, by decide, by decide +kernel⟩ ⟨Nat.le_of_ble_eq_true rfl, Nat.le_of_ble_eq_true rfl⟩ hl.1 rfl (rest := []) rfl (Nat.le_of_ble_eq_true rfl) ⟨Nat.zero_le _, Nat.zero_le _⟩ d_Rd_readToken_79 (fun I9 a9 H locs hp9 hM => ?_)
            obtain ⟨e1_p9, hf_p9, ht_p9⟩ := hp9
            replace e1_p9 : a9 = a := e1_p9
            cases e1_p9
            refine lv_goto (tgt := 114) hx hb d_Rd_readToken_82 (by decide) ?_
            exact hret _ _ _ _ _ _ d_Rd_readToken_114 hM (⟨rfl, fun q hq => (hf_p9 q hq).trans (by show upd _ _ _ q = _; (repeat rw [pk_un (by omega)])), ht_p9⟩)
        · skip
          refine lv_aload_n hx hb d_Rd_readToken_63 rfl (lv_at hl 1 rfl) ?_
          refine lv_iconst (v := 0) hx hb d_Rd_readToken_64 (by decide) ?_
          refine co_put hC in_Rd t_Rd t_Rd_ok n_Rd hK hM 3 (by omega) (cE_3) rfl 2 (by decide) wf_Rd_15 rfl rfl (ty := .int) (by decide +kernel) (x := 0) rfl rfl (Nat.le_of_ble_eq_true rfl) (by decide) (rfl) d_Rd_readToken_65 (fun H locs hM => ?_)
          replace hM : CO D cT (CA X) X (upd (upd (upd I 31 (nI k)) 33 (nI k)) 32 0) a s.heap H locs := hM
          refine lv_goto (tgt := 114) hx hb d_Rd_readToken_68 (by decide) ?_
          refine hret _ _ _ _ _ _ d_Rd_readToken_114 hM ?_
          refine ⟨rfl, fun q hq => by show upd _ _ _ q = _; (repeat rw [pk_un (by omega)]), ?_⟩
          rw [tk_end hsk (cC_end.mp (by omega))]
          exact ⟨rfl, fun z => absurd (show (0 : Nat) = 3 from z) (by decide), fun _ => ⟨h36, rfl, rfl, fun y => absurd (show (0 : Nat) = 1 ∨ (0 : Nat) = 2 from y) (by decide)⟩⟩
      · skip
        refine lv_aload_n hx hb d_Rd_readToken_10 rfl (lv_at hl 0 rfl) ?_
        refine rd_get hC in_Rd hK hM.1 3 (cw_he (by omega) (cE_3)) rfl 0 (by decide) wf_Rd_33 rfl (v := .ref (X.1 1)) (rfl) d_Rd_readToken_11 ?_
        refine lv_aload_n hx hb d_Rd_readToken_14 rfl (lv_at hl 0 rfl) ?_
        refine rd_get hC in_Rd hK hM.1 3 (cw_he (by omega) (cE_3)) rfl 1 (by decide) wf_Rd_9 rfl (v := .int (nI k)) (congrArg (fun z : Int32 => some (Value.int z)) (pk_us)) d_Rd_readToken_15 ?_
        refine rd_call (np := 1) hC hK hM.1 (cw_he (by omega) (cE_1)) rfl (c_Tp_byteAt l D cT X (upd I 31 (nI k)) a k tl ((pk_un (by omega)).trans (hT.1)) hT.2.1 (by omega)) rfl ⟨wl_Rd_92, wi_Tp_byteAt, ws_Tp_byteAt, wc_Tp_byteAt, wn_Tp⟩ ⟨by decide, by decide, by decide +kernel⟩ ⟨Nat.le_of_ble_eq_true rfl, Nat.le_of_ble_eq_true rfl⟩ hl.1 rfl (rest := []) rfl (Nat.le_of_ble_eq_true rfl) ⟨Nat.zero_le _, Nat.zero_le _⟩ d_Rd_readToken_18 (fun rr hrr => ?_)
        replace hrr : rr = iI (cC tl tb k) := hrr.trans (bC_v (fun j hj => (hT.2.2 j hj).1))
        subst hrr
        refine lv_bipush (v := 32) hx hb d_Rd_readToken_21 (by decide) ?_
        refine zc_ne hx hb (cC tl tb k) 32 (by omega) (by omega) (by omega) (by omega) d_Rd_readToken_23 (tgt := 39) (by decide) (fun h10 => ?_) (fun h10 => ?_)
        · skip
          replace hsk : skP tl tb p0 = k := by rw [← hsk]; first | exact skC_n (by assumption) | exact skC_e (by omega)
          refine lv_aload_n hx hb d_Rd_readToken_39 rfl (lv_at hl 0 rfl) ?_
          refine lv_aload_n hx hb d_Rd_readToken_40 rfl (lv_at hl 0 rfl) ?_
          refine rd_get hC in_Rd hK hM.1 3 (cw_he (by omega) (cE_3)) rfl 1 (by decide) wf_Rd_9 rfl (v := .int (nI k)) (congrArg (fun z : Int32 => some (Value.int z)) (pk_us)) d_Rd_readToken_41 ?_
          refine co_put hC in_Rd t_Rd t_Rd_ok n_Rd hK hM 3 (by omega) (cE_3) rfl 3 (by decide) wf_Rd_18 rfl rfl (ty := .int) (by decide +kernel) (x := nI k) rfl rfl (Nat.le_of_ble_eq_true rfl) (by decide) (rfl) d_Rd_readToken_44 (fun H locs hM => ?_)
          replace hM : CO D cT (CA X) X (upd (upd I 31 (nI k)) 33 (nI k)) a s.heap H locs := hM
          refine lv_aload_n hx hb d_Rd_readToken_47 rfl (lv_at hl 0 rfl) ?_
          refine rd_get hC in_Rd hK hM.1 3 (cw_he (by omega) (cE_3)) rfl 0 (by decide) wf_Rd_33 rfl (v := .ref (X.1 1)) (rfl) d_Rd_readToken_48 ?_
          refine lv_aload_n hx hb d_Rd_readToken_51 rfl (lv_at hl 0 rfl) ?_
          refine rd_get hC in_Rd hK hM.1 3 (cw_he (by omega) (cE_3)) rfl 1 (by decide) wf_Rd_9 rfl (v := .int (nI k)) (congrArg (fun z : Int32 => some (Value.int z)) ((pk_un (by omega)).trans (pk_us))) d_Rd_readToken_52 ?_
          refine rd_call (np := 1) hC hK hM.1 (cw_he (by omega) (cE_1)) rfl (c_Tp_byteAt l D cT X (upd (upd I 31 (nI k)) 33 (nI k)) a k tl ((pk_un (by omega)).trans ((pk_un (by omega)).trans (hT.1))) hT.2.1 (by omega)) rfl ⟨wl_Rd_92, wi_Tp_byteAt, ws_Tp_byteAt, wc_Tp_byteAt, wn_Tp⟩ ⟨by decide, by decide, by decide +kernel⟩ ⟨Nat.le_of_ble_eq_true rfl, Nat.le_of_ble_eq_true rfl⟩ hl.1 rfl (rest := []) rfl (Nat.le_of_ble_eq_true rfl) ⟨Nat.zero_le _, Nat.zero_le _⟩ d_Rd_readToken_55 (fun rr hrr => ?_)
          replace hrr : rr = iI (cC tl tb k) := hrr.trans (bC_v (fun j hj => (hT.2.2 j hj).1))
          subst hrr
          refine lv_istore_n (lv' := [(1, .int (iI (cC tl tb k))), (0, .ref (X.1 3))]) hx hb d_Rd_readToken_58 rfl hl (by decide) rfl (fun ls hl => ?_)
          refine lv_iload_n hx hb d_Rd_readToken_59 rfl (lv_at hl 0 rfl) ?_
          refine zz_ge hx hb (cC tl tb k) (by omega) (by omega) d_Rd_readToken_60 (tgt := 71) (by decide) (fun h11 => ?_) (fun h11 => ?_)
          · skip
            refine lv_iload_n hx hb d_Rd_readToken_71 rfl (lv_at hl 0 rfl) ?_
            refine st_calli (np := 1) hC (c_Rd_isLetter l (iI (cC tl tb k)) (cC tl tb k) (iI_toInt (z := cC tl tb k) (by omega) (by omega))) ⟨wl_Rd_95, wt_Rd_isLetter, wc_Rd_isLetter, wn_Rd⟩ ⟨by decide, by decide, by decide +kernel⟩ ⟨Nat.le_of_ble_eq_true rfl, Nat.le_of_ble_eq_true rfl⟩ hl.1 rfl (rest := []) rfl (Nat.le_of_ble_eq_true rfl) ⟨Nat.zero_le _, Nat.zero_le _⟩ d_Rd_readToken_72 (fun rr hrr => ?_)
            subst hrr
            refine bz_eq (tgt := 85) hx hb d_Rd_readToken_75 (by decide) (fun h12 => ?_) (fun h12 => ?_)
            · skip
              refine lv_iload_n hx hb d_Rd_readToken_85 rfl (lv_at hl 0 rfl) ?_
              refine st_calli (np := 1) hC (c_Rd_isFigure l (iI (cC tl tb k)) (cC tl tb k) (iI_toInt (z := cC tl tb k) (by omega) (by omega))) ⟨wl_Rd_101, wt_Rd_isFigure, wc_Rd_isFigure, wn_Rd⟩ ⟨by decide, by decide, by decide +kernel⟩ ⟨Nat.le_of_ble_eq_true rfl, Nat.le_of_ble_eq_true rfl⟩ hl.1 rfl (rest := []) rfl (Nat.le_of_ble_eq_true rfl) ⟨Nat.zero_le _, Nat.zero_le _⟩ d_Rd_readToken_86 (fun rr hrr => ?_)
              subst hrr
              refine bz_ne (tgt := 98) hx hb d_Rd_readToken_89 (by decide) (fun h13 => ?_) (fun h13 => ?_)
              · skip
                refine lv_aload_n hx hb d_Rd_readToken_98 rfl (lv_at hl 1 rfl) ?_
                refine co_callv (np := 0) hC hK hM (k := 3) (by omega) (cE_3) rfl (c_Rd_readFigures l D cT X (upd (upd I 31 (nI k)) 33 (nI k)) a tl p0 k tb hT rfl rfl h36 hsk (cC_tl (tl := tl) (tb := tb) (k := k) (by omega)) (fun z => by have := (cC_lt (tl := tl) (tb := tb)).mpr z; omega) (by first | exact Or.inl (cC_fg.mp (by assumption)) | exact Or.inr ((cC_c (c := 45) (by decide)).mp (by omega)))) rfl ⟨wl_Rd_104, wi_Rd_readFigures, ws_Rd_readFigures, wc_Rd_readFigures, wn_Rd⟩ ⟨by decide, by decide, by decide +kernel⟩ ⟨Nat.le_of_ble_eq_true rfl, Nat.le_of_ble_eq_true rfl⟩ hl.1 rfl (rest := []) rfl (Nat.le_of_ble_eq_true rfl) ⟨Nat.zero_le _, Nat.zero_le _⟩ d_Rd_readToken_99 (fun I14 a14 H locs hp14 hM => ?_)
                obtain ⟨e1_p14, hf_p14, ht_p14⟩ := hp14
                replace e1_p14 : a14 = a := e1_p14
                cases e1_p14
                refine lv_goto (tgt := 114) hx hb d_Rd_readToken_102 (by decide) ?_
                exact hret _ _ _ _ _ _ d_Rd_readToken_114 hM (⟨rfl, fun q hq => (hf_p14 q hq).trans (by show upd _ _ _ q = _; (repeat rw [pk_un (by omega)])), ht_p14⟩)
              · skip
                refine lv_iload_n hx hb d_Rd_readToken_92 rfl (lv_at hl 0 rfl) ?_
                refine lv_bipush (v := 45) hx hb d_Rd_readToken_93 (by decide) ?_
                refine zc_ne hx hb (cC tl tb k) 45 (by omega) (by omega) (by omega) (by omega) d_Rd_readToken_95 (tgt := 105) (by decide) (fun h15 => ?_) (fun h15 => ?_)
                · skip
                  refine lv_aload_n hx hb d_Rd_readToken_105 rfl (lv_at hl 1 rfl) ?_
                  refine lv_iconst (v := 1) hx hb d_Rd_readToken_106 (by decide) ?_
                  refine lv_aload_n hx hb d_Rd_readToken_107 rfl (lv_at hl 1 rfl) ?_
                  refine rd_get hC in_Rd hK hM.1 3 (cw_he (by omega) (cE_3)) rfl 3 (by decide) wf_Rd_18 rfl (v := .int (nI k)) (congrArg (fun z : Int32 => some (Value.int z)) (pk_us)) d_Rd_readToken_108 ?_
                  refine co_callv (np := 2) hC hK hM (k := 3) (by omega) (cE_3) rfl (c_Rd_fail l D cT X (upd (upd I 31 (nI k)) 33 (nI k)) a 1 (nI k)) rfl ⟨wl_Rd_44, wi_Rd_fail, ws_Rd_fail, wc_Rd_fail, wn_Rd⟩ ⟨by decide, by decide, by decide +kernel⟩ ⟨Nat.le_of_ble_eq_true rfl, Nat.le_of_ble_eq_true rfl⟩ hl.1 rfl (rest := []) rfl (Nat.le_of_ble_eq_true rfl) ⟨Nat.zero_le _, Nat.zero_le _⟩ d_Rd_readToken_111 (fun I16 a16 H locs hp16 hM => ?_)
                  cases hp16
                  refine hret _ _ _ _ _ _ d_Rd_readToken_114 hM ?_
                  refine ⟨rfl, fun q hq => by show upd _ _ _ q = _; (repeat rw [pk_un (by omega)]), ?_⟩
                  rw [tk_no hsk (fun z => by have := (cC_end (tl := tl) (tb := tb)).mpr z; omega) (fun z => by have := (cC_lt (tl := tl) (tb := tb)).mpr z; omega) (by rintro (z | z); (have := (cC_fg (tl := tl) (tb := tb)).mpr z; omega); (have := (cC_c (tl := tl) (tb := tb) (k := k) (c := 45) (by decide)).mpr z; omega))]
                  exact ⟨rfl, fun _ => ⟨rfl, rfl⟩, fun z => absurd rfl z⟩
                · skip
                  refine lv_aload_n hx hb d_Rd_readToken_98 rfl (lv_at hl 1 rfl) ?_
                  refine co_callv (np := 0) hC hK hM (k := 3) (by omega) (cE_3) rfl (c_Rd_readFigures l D cT X (upd (upd I 31 (nI k)) 33 (nI k)) a tl p0 k tb hT rfl rfl h36 hsk (cC_tl (tl := tl) (tb := tb) (k := k) (by omega)) (fun z => by have := (cC_lt (tl := tl) (tb := tb)).mpr z; omega) (by first | exact Or.inl (cC_fg.mp (by assumption)) | exact Or.inr ((cC_c (c := 45) (by decide)).mp (by omega)))) rfl ⟨wl_Rd_104, wi_Rd_readFigures, ws_Rd_readFigures, wc_Rd_readFigures, wn_Rd⟩ ⟨by decide, by decide, by decide +kernel⟩ ⟨Nat.le_of_ble_eq_true rfl, Nat.le_of_ble_eq_true rfl⟩ hl.1 rfl (rest := []) rfl (Nat.le_of_ble_eq_true rfl) ⟨Nat.zero_le _, Nat.zero_le _⟩ d_Rd_readToken_99 (fun I17 a17 H locs hp17 hM => ?_)
                  obtain ⟨e1_p17, hf_p17, ht_p17⟩ := hp17
                  replace e1_p17 : a17 = a := e1_p17
                  cases e1_p17
                  refine lv_goto (tgt := 114) hx hb d_Rd_readToken_102 (by decide) ?_
                  exact hret _ _ _ _ _ _ d_Rd_readToken_114 hM (⟨rfl, fun q hq => (hf_p17 q hq).trans (by show upd _ _ _ q = _; (repeat rw [pk_un (by omega)])), ht_p17⟩)
            · skip
              refine lv_aload_n hx hb d_Rd_readToken_78 rfl (lv_at hl 1 rfl) ?_
              refine cz_callv (np := 0) hC hK hM hZ hN (k := 3) (by omega) (cE_3) rfl (c_Rd_readName l D cT X (upd (upd I 31 (nI k)) 33 (nI k)) a adK adV N0 tl p0 k tb hN hT rfl rfl h36 hsk (cC_tl (tl := tl) (tb := tb) (k := k) (by omega)) (cC_lt.mp (by assumption))) rfl ⟨wl_Rd_98, wi_Rd_readName, ws_Rd_readName, wc_Rd_readName, wn_Rd⟩ ⟨by decide, by decide, by decide +kernel⟩ ⟨Nat.le_of_ble_eq_true rfl, Nat.le_of_ble_eq_true rfl⟩ hl.1 rfl (rest := []) rfl (Nat.le_of_ble_eq_true rfl) ⟨Nat.zero_le _, Nat.zero_le _⟩ d_Rd_readToken_79 (fun I18 a18 H locs hp18 hM => ?_)
              obtain ⟨e1_p18, hf_p18, ht_p18⟩ := hp18
              replace e1_p18 : a18 = a := e1_p18
              cases e1_p18
              refine lv_goto (tgt := 114) hx hb d_Rd_readToken_82 (by decide) ?_
              exact hret _ _ _ _ _ _ d_Rd_readToken_114 hM (⟨rfl, fun q hq => (hf_p18 q hq).trans (by show upd _ _ _ q = _; (repeat rw [pk_un (by omega)])), ht_p18⟩)
          · skip
            refine lv_aload_n hx hb d_Rd_readToken_63 rfl (lv_at hl 1 rfl) ?_
            refine lv_iconst (v := 0) hx hb d_Rd_readToken_64 (by decide) ?_
            refine co_put hC in_Rd t_Rd t_Rd_ok n_Rd hK hM 3 (by omega) (cE_3) rfl 2 (by decide) wf_Rd_15 rfl rfl (ty := .int) (by decide +kernel) (x := 0) rfl rfl (Nat.le_of_ble_eq_true rfl) (by decide) (rfl) d_Rd_readToken_65 (fun H locs hM => ?_)
            replace hM : CO D cT (CA X) X (upd (upd (upd I 31 (nI k)) 33 (nI k)) 32 0) a s.heap H locs := hM
            refine lv_goto (tgt := 114) hx hb d_Rd_readToken_68 (by decide) ?_
            refine hret _ _ _ _ _ _ d_Rd_readToken_114 hM ?_
            refine ⟨rfl, fun q hq => by show upd _ _ _ q = _; (repeat rw [pk_un (by omega)]), ?_⟩
            rw [tk_end hsk (cC_end.mp (by omega))]
            exact ⟨rfl, fun z => absurd (show (0 : Nat) = 3 from z) (by decide), fun _ => ⟨h36, rfl, rfl, fun y => absurd (show (0 : Nat) = 1 ∨ (0 : Nat) = 2 from y) (by decide)⟩⟩
        · skip
          refine lv_aload_n hx hb d_Rd_readToken_26 rfl (lv_at hl 0 rfl) ?_
          refine lv_dup hx hb d_Rd_readToken_27 rfl ?_
          refine rd_get hC in_Rd hK hM.1 3 (cw_he (by omega) (cE_3)) rfl 1 (by decide) wf_Rd_9 rfl (v := .int (nI k)) (congrArg (fun z : Int32 => some (Value.int z)) (pk_us)) d_Rd_readToken_28 ?_
          refine lv_iconst (v := 1) hx hb d_Rd_readToken_31 (by decide) ?_
          refine lv_iadd hx hb d_Rd_readToken_32 ?_
          refine topi_eq (nI_add k 1) ?_
          refine co_put hC in_Rd t_Rd t_Rd_ok n_Rd hK hM 3 (by omega) (cE_3) rfl 1 (by decide) wf_Rd_9 rfl rfl (ty := .int) (by decide +kernel) (x := nI (k + 1)) rfl rfl (Nat.le_of_ble_eq_true rfl) (by decide) (rfl) d_Rd_readToken_33 (fun H locs hM => ?_)
          replace hM : CO D cT (CA X) X (upd (upd I 31 (nI k)) 31 (nI (k + 1))) a s.heap H locs := hM
          rw [upd_upd] at hM
          refine lv_goto (tgt := 0) hx hb d_Rd_readToken_36 (by decide) ?_
          have hk1 := cC_tl (tl := tl) (tb := tb) (k := k) (by omega)
          exact ih0 (k + 1) _ _ _ (by omega) (by rw [← skC_y (by omega) (by omega)]; exact hsk) (by omega) (hM) (lv_sub hl [0] rfl)
  exact hL0 _ p0 _ _ _ (Nat.lt_succ_self _) (rfl) (hp0) (by rw [upd_same2 h31]; exact hM) (lv_sub hl [0] rfl)
set_option maxHeartbeats 2000000 in
set_option maxRecDepth 100000 in
theorem c_Rd_readNumber_y (l : Launch) (D : va_G) (cT : Nat → ClassId) (X : CX) (I : Nat → Int32) (a : Nat → Nat → Int32) (lo : Int) (adK adV : Nat → Nat) (N0 : Nat) (tl : Nat) (tb : Nat → Nat) (t : TT) (hN : ∀ q, CA X q → N0 ≤ q) (hT : CTp I a tl tb) (hg : TKh I t) (hto : TKo tl tb t) (ht3 : t.1 ≤ 3) (hv : -10000 ≤ t.2.2.2 ∧ t.2.2.2 ≤ 10000) (hlo : -20 ≤ lo ∧ lo ≤ 20) : CZi l D cT X adK adV N0 y_Rd_readNumber b_Rd_readNumber 4 (some .int) 6 145 [.ref (X.1 3), .int (iI lo), .int (iI 20)] I a (fun r u => rnQ tl tb t lo I r u.1 ∧ u.2 = a) := by
  refine cz_enti (own := R_Rd) (by decide) rfl (Nat.le_of_ble_eq_true rfl) ?_
  intro p e s m args below meth c Q hC hK hM hZ hret ls hl
  have hx := hC.1
  have hb := hC.2.1
  replace hl : lv_has ls 4 [(0, .ref (X.1 3)), (1, .int (iI lo)), (2, .int (iI 20))] := hl
  have htb : ∀ j, j < tl → tb j < 256 := fun j hj => (hT.2.2 j hj).2
  have h160 := hT.2.1
  refine lv_aload_n hx hb d_Rd_readNumber_0 rfl (lv_at hl 0 rfl) ?_
  refine rd_get hC in_Rd hK hM.1 3 (cw_he (by omega) (cE_3)) rfl 6 (by decide) wf_Rd_27 rfl (v := .int 0) (congrArg (fun z : Int32 => some (Value.int z)) (hg.1)) d_Rd_readNumber_1 ?_
  refine lv_if_ne (tgt := 24) hx hb d_Rd_readNumber_4 (by decide) (fun h1 => ?_) (fun h1 => ?_)
  · exact absurd h1 (by decide)
  · skip
    refine lv_aload_n hx hb d_Rd_readNumber_7 rfl (lv_at hl 0 rfl) ?_
    refine rd_get hC in_Rd hK hM.1 3 (cw_he (by omega) (cE_3)) rfl 2 (by decide) wf_Rd_15 rfl (v := .int (nI t.1)) (congrArg (fun z : Int32 => some (Value.int z)) (hg.2.2.1)) d_Rd_readNumber_8 ?_
    refine lv_iconst (v := 2) hx hb d_Rd_readNumber_11 (by decide) ?_
    refine nc_eq hx hb t.1 2 (by omega) (by omega) d_Rd_readNumber_12 (tgt := 24) (by decide) (fun h2 => ?_) (fun h2 => ?_)
    · skip
      refine lv_aload_n hx hb d_Rd_readNumber_24 rfl (lv_at hl 0 rfl) ?_
      refine rd_get hC in_Rd hK hM.1 3 (cw_he (by omega) (cE_3)) rfl 6 (by decide) wf_Rd_27 rfl (v := .int 0) (congrArg (fun z : Int32 => some (Value.int z)) (hg.1)) d_Rd_readNumber_25 ?_
      refine lv_if_ne (tgt := 56) hx hb d_Rd_readNumber_28 (by decide) (fun h3 => ?_) (fun h3 => ?_)
      · exact absurd h3 (by decide)
      · skip
        refine lv_aload_n hx hb d_Rd_readNumber_31 rfl (lv_at hl 0 rfl) ?_
        refine rd_get hC in_Rd hK hM.1 3 (cw_he (by omega) (cE_3)) rfl 4 (by decide) wf_Rd_21 rfl (v := .int (iI t.2.2.2)) (congrArg (fun z : Int32 => some (Value.int z)) (hg.2.2.2.2 (Or.inr (by omega)))) d_Rd_readNumber_32 ?_
        refine lv_iload_n hx hb d_Rd_readNumber_35 rfl (lv_at hl 1 rfl) ?_
        refine zc_lt hx hb t.2.2.2 lo (by omega) (by omega) (by omega) (by omega) d_Rd_readNumber_36 (tgt := 47) (by decide) (fun h4 => ?_) (fun h4 => ?_)
        · skip
          refine lv_aload_n hx hb d_Rd_readNumber_47 rfl (lv_at hl 0 rfl) ?_
          refine lv_iconst (v := 3) hx hb d_Rd_readNumber_48 (by decide) ?_
          refine lv_aload_n hx hb d_Rd_readNumber_49 rfl (lv_at hl 0 rfl) ?_
          refine rd_get hC in_Rd hK hM.1 3 (cw_he (by omega) (cE_3)) rfl 3 (by decide) wf_Rd_18 rfl (v := .int (I 33)) (rfl) d_Rd_readNumber_50 ?_
          refine co_callv (np := 2) hC hK hM (k := 3) (by omega) (cE_3) rfl (c_Rd_fail l D cT X I a 3 (I 33)) rfl ⟨wl_Rd_44, wi_Rd_fail, ws_Rd_fail, wc_Rd_fail, wn_Rd⟩ ⟨by decide, by decide, by decide +kernel⟩ ⟨Nat.le_of_ble_eq_true rfl, Nat.le_of_ble_eq_true rfl⟩ hl.1 rfl (rest := []) rfl (Nat.le_of_ble_eq_true rfl) ⟨Nat.zero_le _, Nat.zero_le _⟩ d_Rd_readNumber_53 (fun I5 a5 H locs hp5 hM => ?_)
          cases hp5
          refine lv_aload_n hx hb d_Rd_readNumber_56 rfl (lv_at hl 0 rfl) ?_
          refine rd_get hC in_Rd hK hM.1 3 (cw_he (by omega) (cE_3)) rfl 6 (by decide) wf_Rd_27 rfl (v := .int 3) (congrArg (fun z : Int32 => some (Value.int z)) ((pk_un (by omega)).trans (pk_us))) d_Rd_readNumber_57 ?_
          refine lv_if_eq (tgt := 65) hx hb d_Rd_readNumber_60 (by decide) (fun h6 => ?_) (fun h6 => ?_)
          · exact absurd h6 (by decide)
          · skip
            refine lv_iconst (v := 0) hx hb d_Rd_readNumber_63 (by decide) ?_
            exact hret _ _ _ _ _ _ _ d_Rd_readNumber_64 hM (⟨⟨fun q hq => by show upd _ _ _ q = _; (repeat rw [pk_un (by omega)]), fun z => absurd (by omega) z, fun _ _ => ⟨rfl, rfl, hg.2.2.2.1⟩, fun _ z => absurd z (by omega)⟩, rfl⟩)
        · skip
          refine lv_aload_n hx hb d_Rd_readNumber_39 rfl (lv_at hl 0 rfl) ?_
          refine rd_get hC in_Rd hK hM.1 3 (cw_he (by omega) (cE_3)) rfl 4 (by decide) wf_Rd_21 rfl (v := .int (iI t.2.2.2)) (congrArg (fun z : Int32 => some (Value.int z)) (hg.2.2.2.2 (Or.inr (by omega)))) d_Rd_readNumber_40 ?_
          refine lv_iload_n hx hb d_Rd_readNumber_43 rfl (lv_at hl 2 rfl) ?_
          refine zc_le hx hb t.2.2.2 20 (by omega) (by omega) (by omega) (by omega) d_Rd_readNumber_44 (tgt := 56) (by decide) (fun h7 => ?_) (fun h7 => ?_)
          · skip
            refine lv_aload_n hx hb d_Rd_readNumber_56 rfl (lv_at hl 0 rfl) ?_
            refine rd_get hC in_Rd hK hM.1 3 (cw_he (by omega) (cE_3)) rfl 6 (by decide) wf_Rd_27 rfl (v := .int 0) (congrArg (fun z : Int32 => some (Value.int z)) (hg.1)) d_Rd_readNumber_57 ?_
            refine lv_if_eq (tgt := 65) hx hb d_Rd_readNumber_60 (by decide) (fun h8 => ?_) (fun h8 => ?_)
            · skip
              refine lv_aload_n hx hb d_Rd_readNumber_65 rfl (lv_at hl 0 rfl) ?_
              refine rd_get hC in_Rd hK hM.1 3 (cw_he (by omega) (cE_3)) rfl 4 (by decide) wf_Rd_21 rfl (v := .int (iI t.2.2.2)) (congrArg (fun z : Int32 => some (Value.int z)) (hg.2.2.2.2 (Or.inr (by omega)))) d_Rd_readNumber_66 ?_
              refine lv_istore_n (lv' := [(3, .int (iI t.2.2.2)), (0, .ref (X.1 3)), (1, .int (iI lo)), (2, .int (iI 20))]) hx hb d_Rd_readNumber_69 rfl hl (by decide) rfl (fun ls hl => ?_)
              refine lv_aload_n hx hb d_Rd_readNumber_70 rfl (lv_at hl 1 rfl) ?_
              refine cz_callv (np := 0) hC hK hM hZ hN (k := 3) (by omega) (cE_3) rfl (c_Rd_readToken l D cT X I a adK adV N0 tl t.2.2.1 tb hN hT hg.2.1 hg.1 hto.2.1) rfl ⟨wl_Rd_37, wi_Rd_readToken, ws_Rd_readToken, wc_Rd_readToken, wn_Rd⟩ ⟨by decide, by decide, by decide +kernel⟩ ⟨Nat.le_of_ble_eq_true rfl, Nat.le_of_ble_eq_true rfl⟩ hl.1 rfl (rest := []) rfl (Nat.le_of_ble_eq_true rfl) ⟨Nat.zero_le _, Nat.zero_le _⟩ d_Rd_readNumber_71 (fun I9 a9 H locs hp9 hM => ?_)
              obtain ⟨e1_p9, hf_p9, ht_p9⟩ := hp9
              replace e1_p9 : a9 = a := e1_p9
              cases e1_p9
              refine lv_iload_n hx hb d_Rd_readNumber_74 rfl (lv_at hl 0 rfl) ?_
              exact hret _ _ _ _ _ _ _ d_Rd_readNumber_75 hM (⟨⟨hf_p9, fun z => absurd (by omega) z, fun _ z => absurd (by omega) z, fun _ _ => ⟨rfl, ht_p9⟩⟩, rfl⟩)
            · exact absurd h8 (by decide)
          · skip
            refine lv_aload_n hx hb d_Rd_readNumber_47 rfl (lv_at hl 0 rfl) ?_
            refine lv_iconst (v := 3) hx hb d_Rd_readNumber_48 (by decide) ?_
            refine lv_aload_n hx hb d_Rd_readNumber_49 rfl (lv_at hl 0 rfl) ?_
            refine rd_get hC in_Rd hK hM.1 3 (cw_he (by omega) (cE_3)) rfl 3 (by decide) wf_Rd_18 rfl (v := .int (I 33)) (rfl) d_Rd_readNumber_50 ?_
            refine co_callv (np := 2) hC hK hM (k := 3) (by omega) (cE_3) rfl (c_Rd_fail l D cT X I a 3 (I 33)) rfl ⟨wl_Rd_44, wi_Rd_fail, ws_Rd_fail, wc_Rd_fail, wn_Rd⟩ ⟨by decide, by decide, by decide +kernel⟩ ⟨Nat.le_of_ble_eq_true rfl, Nat.le_of_ble_eq_true rfl⟩ hl.1 rfl (rest := []) rfl (Nat.le_of_ble_eq_true rfl) ⟨Nat.zero_le _, Nat.zero_le _⟩ d_Rd_readNumber_53 (fun I10 a10 H locs hp10 hM => ?_)
            cases hp10
            refine lv_aload_n hx hb d_Rd_readNumber_56 rfl (lv_at hl 0 rfl) ?_
            refine rd_get hC in_Rd hK hM.1 3 (cw_he (by omega) (cE_3)) rfl 6 (by decide) wf_Rd_27 rfl (v := .int 3) (congrArg (fun z : Int32 => some (Value.int z)) ((pk_un (by omega)).trans (pk_us))) d_Rd_readNumber_57 ?_
            refine lv_if_eq (tgt := 65) hx hb d_Rd_readNumber_60 (by decide) (fun h11 => ?_) (fun h11 => ?_)
            · exact absurd h11 (by decide)
            · skip
              refine lv_iconst (v := 0) hx hb d_Rd_readNumber_63 (by decide) ?_
              exact hret _ _ _ _ _ _ _ d_Rd_readNumber_64 hM (⟨⟨fun q hq => by show upd _ _ _ q = _; (repeat rw [pk_un (by omega)]), fun z => absurd (by omega) z, fun _ _ => ⟨rfl, rfl, hg.2.2.2.1⟩, fun _ z => absurd z (by omega)⟩, rfl⟩)
    · skip
      refine lv_aload_n hx hb d_Rd_readNumber_15 rfl (lv_at hl 0 rfl) ?_
      refine lv_iconst (v := 2) hx hb d_Rd_readNumber_16 (by decide) ?_
      refine lv_aload_n hx hb d_Rd_readNumber_17 rfl (lv_at hl 0 rfl) ?_
      refine rd_get hC in_Rd hK hM.1 3 (cw_he (by omega) (cE_3)) rfl 3 (by decide) wf_Rd_18 rfl (v := .int (I 33)) (rfl) d_Rd_readNumber_18 ?_
      refine co_callv (np := 2) hC hK hM (k := 3) (by omega) (cE_3) rfl (c_Rd_fail l D cT X I a 2 (I 33)) rfl ⟨wl_Rd_44, wi_Rd_fail, ws_Rd_fail, wc_Rd_fail, wn_Rd⟩ ⟨by decide, by decide, by decide +kernel⟩ ⟨Nat.le_of_ble_eq_true rfl, Nat.le_of_ble_eq_true rfl⟩ hl.1 rfl (rest := []) rfl (Nat.le_of_ble_eq_true rfl) ⟨Nat.zero_le _, Nat.zero_le _⟩ d_Rd_readNumber_21 (fun I12 a12 H locs hp12 hM => ?_)
      cases hp12
      refine lv_aload_n hx hb d_Rd_readNumber_24 rfl (lv_at hl 0 rfl) ?_
      refine rd_get hC in_Rd hK hM.1 3 (cw_he (by omega) (cE_3)) rfl 6 (by decide) wf_Rd_27 rfl (v := .int 2) (congrArg (fun z : Int32 => some (Value.int z)) ((pk_un (by omega)).trans (pk_us))) d_Rd_readNumber_25 ?_
      refine lv_if_ne (tgt := 56) hx hb d_Rd_readNumber_28 (by decide) (fun h13 => ?_) (fun h13 => ?_)
      · skip
        refine lv_aload_n hx hb d_Rd_readNumber_56 rfl (lv_at hl 0 rfl) ?_
        refine rd_get hC in_Rd hK hM.1 3 (cw_he (by omega) (cE_3)) rfl 6 (by decide) wf_Rd_27 rfl (v := .int 2) (congrArg (fun z : Int32 => some (Value.int z)) ((pk_un (by omega)).trans (pk_us))) d_Rd_readNumber_57 ?_
        refine lv_if_eq (tgt := 65) hx hb d_Rd_readNumber_60 (by decide) (fun h14 => ?_) (fun h14 => ?_)
        · exact absurd h14 (by decide)
        · skip
          refine lv_iconst (v := 0) hx hb d_Rd_readNumber_63 (by decide) ?_
          exact hret _ _ _ _ _ _ _ d_Rd_readNumber_64 hM (⟨⟨fun q hq => by show upd _ _ _ q = _; (repeat rw [pk_un (by omega)]), fun _ => ⟨rfl, rfl, hg.2.2.2.1⟩, fun z => absurd z (by omega), fun z => absurd z (by omega)⟩, rfl⟩)
      · exact absurd h13 (by decide)
set_option maxHeartbeats 400000 in
set_option maxRecDepth 100000 in
theorem c_Rd_readNumber_f (l : Launch) (D : va_G) (cT : Nat → ClassId) (X : CX) (I : Nat → Int32) (a : Nat → Nat → Int32) (lo : Int32) (hi : Int32) (f : Nat) (hf : I 36 = nI f) (hf1 : 0 < f ∧ f ≤ 4) : CMi l D cT X y_Rd_readNumber b_Rd_readNumber 4 (some .int) 0 0 [.ref (X.1 3), .int lo, .int hi] I a (fun r u => r = 0 ∧ u = (I, a)) := by
  refine co_enti (own := R_Rd) (by decide) rfl (Nat.le_of_ble_eq_true rfl) ?_
  intro p e s m args below meth c Q hC hK hM hret ls hl
  have hx := hC.1
  have hb := hC.2.1
  replace hl : lv_has ls 4 [(0, .ref (X.1 3)), (1, .int lo), (2, .int hi)] := hl
  refine lv_aload_n hx hb d_Rd_readNumber_0 rfl (lv_at hl 0 rfl) ?_
  refine rd_get hC in_Rd hK hM.1 3 (cw_he (by omega) (cE_3)) rfl 6 (by decide) wf_Rd_27 rfl (v := .int (nI f)) (congrArg (fun z : Int32 => some (Value.int z)) (hf)) d_Rd_readNumber_1 ?_
  refine nz_ne hx hb f (by omega) d_Rd_readNumber_4 (tgt := 24) (by decide) (fun h1 => ?_) (fun h1 => ?_)
  · skip
    refine lv_aload_n hx hb d_Rd_readNumber_24 rfl (lv_at hl 0 rfl) ?_
    refine rd_get hC in_Rd hK hM.1 3 (cw_he (by omega) (cE_3)) rfl 6 (by decide) wf_Rd_27 rfl (v := .int (nI f)) (congrArg (fun z : Int32 => some (Value.int z)) (hf)) d_Rd_readNumber_25 ?_
    refine nz_ne hx hb f (by omega) d_Rd_readNumber_28 (tgt := 56) (by decide) (fun h2 => ?_) (fun h2 => ?_)
    · skip
      refine lv_aload_n hx hb d_Rd_readNumber_56 rfl (lv_at hl 0 rfl) ?_
      refine rd_get hC in_Rd hK hM.1 3 (cw_he (by omega) (cE_3)) rfl 6 (by decide) wf_Rd_27 rfl (v := .int (nI f)) (congrArg (fun z : Int32 => some (Value.int z)) (hf)) d_Rd_readNumber_57 ?_
      refine nz_eq hx hb f (by omega) d_Rd_readNumber_60 (tgt := 65) (by decide) (fun h3 => ?_) (fun h3 => ?_)
      · first | contradiction | (exfalso; omega)
      · skip
        refine lv_iconst (v := 0) hx hb d_Rd_readNumber_63 (by decide) ?_
        exact hret _ _ _ _ _ _ _ d_Rd_readNumber_64 hM (⟨rfl, rfl⟩)
    · first | contradiction | (exfalso; omega)
  · first | contradiction | (exfalso; omega)
set_option maxHeartbeats 400000 in
set_option maxRecDepth 100000 in
theorem c_Rd_readText_f (l : Launch) (D : va_G) (cT : Nat → ClassId) (X : CX) (I : Nat → Int32) (a : Nat → Nat → Int32) (dp : Int32) (f : Nat) (hf : I 36 = nI f) (hf1 : 0 < f ∧ f ≤ 4) : CMq l D cT X y_Rd_readText b_Rd_readText 6 (some (.object "SignSolids$Form")) 0 0 [.ref (X.1 3), .int dp] I a (fun o u => o = none ∧ u = (I, a)) := by
  refine co_entq (own := R_Rd) (by decide) rfl (Nat.le_of_ble_eq_true rfl) ?_
  intro p e s m args below meth c Q hC hK hM hret ls hl
  have hx := hC.1
  have hb := hC.2.1
  replace hl : lv_has ls 6 [(0, .ref (X.1 3)), (1, .int dp)] := hl
  refine lv_aload_n hx hb d_Rd_readText_0 rfl (lv_at hl 0 rfl) ?_
  refine rd_get hC in_Rd hK hM.1 3 (cw_he (by omega) (cE_3)) rfl 6 (by decide) wf_Rd_27 rfl (v := .int (nI f)) (congrArg (fun z : Int32 => some (Value.int z)) (hf)) d_Rd_readText_1 ?_
  refine nz_ne hx hb f (by omega) d_Rd_readText_4 (tgt := 22) (by decide) (fun h1 => ?_) (fun h1 => ?_)
  · skip
    refine lv_aload_n hx hb d_Rd_readText_22 rfl (lv_at hl 0 rfl) ?_
    refine rd_get hC in_Rd hK hM.1 3 (cw_he (by omega) (cE_3)) rfl 6 (by decide) wf_Rd_27 rfl (v := .int (nI f)) (congrArg (fun z : Int32 => some (Value.int z)) (hf)) d_Rd_readText_23 ?_
    refine nz_ne hx hb f (by omega) d_Rd_readText_26 (tgt := 46) (by decide) (fun h2 => ?_) (fun h2 => ?_)
    · skip
      refine lv_aload_n hx hb d_Rd_readText_46 rfl (lv_at hl 0 rfl) ?_
      refine rd_get hC in_Rd hK hM.1 3 (cw_he (by omega) (cE_3)) rfl 6 (by decide) wf_Rd_27 rfl (v := .int (nI f)) (congrArg (fun z : Int32 => some (Value.int z)) (hf)) d_Rd_readText_47 ?_
      refine nz_eq hx hb f (by omega) d_Rd_readText_50 (tgt := 55) (by decide) (fun h3 => ?_) (fun h3 => ?_)
      · first | contradiction | (exfalso; omega)
      · skip
        refine lv_null hx hb d_Rd_readText_53 ?_
        exact hret _ _ _ (none) _ _ _ _ d_Rd_readText_54 rfl hM (⟨rfl, rfl⟩)
    · first | contradiction | (exfalso; omega)
  · first | contradiction | (exfalso; omega)
