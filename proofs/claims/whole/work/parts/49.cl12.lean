/-! the class: the flood loaded and counted -/
theorem ch_ne {a : Nat → Nat → Int32} {L PD SK : Nat → Int32} {b : Nat} : va_up (va_up (va_up a 6 L) 7 PD) 8 SK (18 + 3 * b + 1) = a (18 + 3 * b + 1) := by
  rw [va_up_ne _ _ (by omega), va_up_ne _ _ (by omega), va_up_ne _ _ (by omega)]
theorem rwA_sp {f : Nat → Int32} {q : Nat} (h : q < 225) : rwA f ((↑(q % 15) : Int) + (-7)) ((↑(q / 15) : Int) + (-7)) = f q := by
  unfold rwA
  rw [if_pos (by omega)]
  congr 1
  omega
theorem bit_0 {v : Int32} {m : Nat} (hm : m < 16) : (v &&& ((1 : Int32) <<< (nI m &&& 31))) = 0 ↔ bt v m = false := by
  constructor
  · intro h
    have := congrArg (fun x => bt x m) h
    simp only [b_and, b_0, bt_one m hm m (by omega), decide_true, Bool.and_true] at this
    exact this
  · intro h
    apply b_ext
    intro i hi
    rw [b_and, b_0, bt_one m hm i hi]
    by_cases e : i = m
    · rw [e, h]; rfl
    · rw [decide_eq_false e, Bool.and_false]
def nix (x y z : Int) : Nat := 15 * (15 * (z + 7) + (y + 7)).toNat + (x + 7).toNat
theorem tk_or {r : Int32} {L L' : Nat → Int32} {sz : Nat} {en : Int32} (h : (r = 0 ∧ (∀ k, k < 3375 → bl L k = false) ∧ L' = L) ∨ (r = 1 ∧ TK L L' sz en)) : (r = 0 → ∀ k, k < 3375 → bl L k = false) ∧ (¬ r = 0 → TK L L' sz en) := by
  rcases h with ⟨h1, h2, -⟩ | ⟨h1, h2⟩
  · exact ⟨fun _ => h2, fun z => absurd h1 z⟩
  · exact ⟨fun z => by rw [h1] at z; exact absurd z (by decide), fun _ => h2⟩
theorem mx_gm {p : Nat → Bool} {g : Nat → Nat} {c f : Nat} (hcf : c ≤ f) (h : ∀ j, c ≤ j → j < f → p j = false) (hp : p f = true) : iI (mx (↑(gmx p g c) : Int) (↑(g f) : Int)) = nI (gmx p g (f + 1)) := by
  rw [(gm_nx hcf h).1, if_pos hp, nI_iI]
  congr 1
  unfold mx
  split <;> split <;> omega
theorem ts_nf9 {x : Bool} (h : ¬ x = false) : x = true := by cases x; exact absurd rfl h; rfl
set_option maxHeartbeats 400000 in
set_option maxRecDepth 100000 in
theorem c_Fl_loadWithin (l : Launch) (D : va_G) (cT : Nat → ClassId) (X : CX) (I : Nat → Int32) (a : Nat → Nat → Int32) (b : Nat) (L PD SK : Nat → Int32) (lr n sz : Nat) (en : Int32)  (hbn : b < X.2.2.2.1) : CMv l D cT X y_Fl_loadWithin b_Fl_loadWithin 3 none 2 45 [.ref (X.1 5), .ref (X.1 (18 + 3 * b))] (upd (upd (upd (upd I 51 (nI lr)) 54 (nI n)) 55 (nI sz)) 56 en) (va_up (va_up (va_up a 6 L) 7 PD) 8 SK) (fun u => u = (upd (upd (upd (upd I 51 (nI 0)) 54 (nI n)) 55 (nI sz)) 56 en, va_up (va_up (va_up a 6 (pt L (a (18 + 3 * b + 1)) 0 225)) 7 PD) 8 SK)) := by
  refine co_entv (own := R_Fl) (by decide) rfl (Nat.le_of_ble_eq_true rfl) ?_
  intro p e s m args below meth c Q hC hK hM hret ls hl
  have hx := hC.1
  have hb := hC.2.1
  replace hl : lv_has ls 3 [(0, .ref (X.1 5)), (1, .ref (X.1 (18 + 3 * b)))] := hl
  refine lv_aload_n hx hb d_Fl_loadWithin_0 rfl (lv_at hl 0 rfl) ?_
  refine lv_iconst (v := 0) hx hb d_Fl_loadWithin_1 (by decide) ?_
  refine co_put hC in_Fl t_Fl t_Fl_ok n_Fl hK hM 5 (by omega) (cE_5) rfl 1 (by decide) wf_Fl_15 rfl rfl (ty := .int) (by decide +kernel) (x := 0) rfl rfl (Nat.le_of_ble_eq_true rfl) (by decide) (rfl) d_Fl_loadWithin_2 (fun H locs hM => ?_)
  replace hM : CO D cT (CA X) X (upd (upd (upd (upd (upd I 51 (nI lr)) 54 (nI n)) 55 (nI sz)) 56 en) 51 0) (va_up (va_up (va_up a 6 L) 7 PD) 8 SK) s.heap H locs := hM
  rw [upd_swap (i := 56) (j := 51) (by omega), upd_swap (i := 55) (j := 51) (by omega), upd_swap (i := 54) (j := 51) (by omega), upd_upd] at hM
  refine lv_iconst (v := 0) hx hb d_Fl_loadWithin_5 (by decide) ?_
  refine lv_istore_n (lv' := [(2, .int 0), (0, .ref (X.1 5)), (1, .ref (X.1 (18 + 3 * b)))]) hx hb d_Fl_loadWithin_6 rfl hl (by decide) rfl (fun ls hl => ?_)
  have hL7 : ∀ (nn : Nat) (q : Nat) (H : Heap) (locs : List Loc) (ls : Array Slot), 225 - q < nn → (q ≤ 225) → CO D cT (CA X) X (upd (upd (upd (upd I 51 0) 54 (nI n)) 55 (nI sz)) 56 en) (va_up (va_up (va_up a 6 (pt L (a (18 + 3 * b + 1)) 0 q)) 7 PD) 8 SK) s.heap H locs → lv_has ls 3 [(0, .ref (X.1 5)), (1, .ref (X.1 (18 + 3 * b))), (2, .int (nI q))] → W p l e (rmOf 2 45) s m args below meth c H locs 0 0 Q (F0 m 7 ls []) := by
    intro nn
    induction nn with
    | zero =>
      intro q H locs ls hmeas7 hq hM hl
      exact absurd hmeas7 (Nat.not_lt_zero _)
    | succ nn ih7 =>
      intro q H locs ls hmeas7 hq hM hl
      refine lv_iload_n hx hb d_Fl_loadWithin_7 rfl (lv_at hl 2 rfl) ?_
      refine lv_sipush (v := 225) hx hb d_Fl_loadWithin_8 (by decide) ?_
      refine nc_ge hx hb q 225 (by omega) (by omega) d_Fl_loadWithin_11 (tgt := 38) (by decide) (fun h1 => ?_) (fun h1 => ?_)
      · skip
        exact hret _ _ _ _ _ _ d_Fl_loadWithin_38 hM (by rw [show q = 225 by omega]; rfl)
      · skip
        refine lv_aload_n hx hb d_Fl_loadWithin_14 rfl (lv_at hl 0 rfl) ?_
        refine rd_get hC in_Fl hK hM.1 5 (cw_he (by omega) (cE_5)) rfl 0 (by decide) wf_Fl_9 rfl (v := .ref (X.1 6)) (rfl) d_Fl_loadWithin_15 ?_
        refine lv_iload_n hx hb d_Fl_loadWithin_18 rfl (lv_at hl 2 rfl) ?_
        refine lv_aload_n hx hb d_Fl_loadWithin_19 rfl (lv_at hl 1 rfl) ?_
        refine lv_iload_n hx hb d_Fl_loadWithin_20 rfl (lv_at hl 2 rfl) ?_
        refine st_calli (np := 1) hC (c_Fl_yOf l q (by omega)) ⟨wl_Fl_35, wt_Fl_yOf, wc_Fl_yOf, wn_Fl⟩ ⟨by decide, by decide, by decide +kernel⟩ ⟨Nat.le_of_ble_eq_true rfl, Nat.le_of_ble_eq_true rfl⟩ hl.1 rfl (rest := [.ref (X.1 (18 + 3 * b)), .int (nI q), .ref (X.1 6)]) rfl (Nat.le_of_ble_eq_true rfl) ⟨Nat.zero_le _, Nat.zero_le _⟩ d_Fl_loadWithin_21 (fun rr hrr => ?_)
        subst hrr
        refine lv_iload_n hx hb d_Fl_loadWithin_24 rfl (lv_at hl 2 rfl) ?_
        refine st_calli (np := 1) hC (c_Fl_zOf l q (by omega)) ⟨wl_Fl_39, wt_Fl_zOf, wc_Fl_zOf, wn_Fl⟩ ⟨by decide, by decide, by decide +kernel⟩ ⟨Nat.le_of_ble_eq_true rfl, Nat.le_of_ble_eq_true rfl⟩ hl.1 rfl (rest := [.int (iI ((↑(q % 15) : Int) + (-7))), .ref (X.1 (18 + 3 * b)), .int (nI q), .ref (X.1 6)]) rfl (Nat.le_of_ble_eq_true rfl) ⟨Nat.zero_le _, Nat.zero_le _⟩ d_Fl_loadWithin_25 (fun rr hrr => ?_)
        subst hrr
        refine rd_call (np := 2) hC hK hM.1 (cw_he (by omega) (cE_B b)) rfl (c_Bo_rowAt l D cT X (upd (upd (upd (upd I 51 0) 54 (nI n)) 55 (nI sz)) 56 en) (va_up (va_up (va_up a 6 (pt L (a (18 + 3 * b + 1)) 0 q)) 7 PD) 8 SK) b ((↑(q % 15) : Int) + (-7)) ((↑(q / 15) : Int) + (-7)) hbn (by omega) (by omega) (by omega) (by omega)) rfl ⟨wl_Fl_42, wi_Bo_rowAt, ws_Bo_rowAt, wc_Bo_rowAt, wn_Bo⟩ ⟨by decide, by decide, by decide +kernel⟩ ⟨Nat.le_of_ble_eq_true rfl, Nat.le_of_ble_eq_true rfl⟩ hl.1 rfl (rest := [.int (nI q), .ref (X.1 6)]) rfl (Nat.le_of_ble_eq_true rfl) ⟨Nat.zero_le _, Nat.zero_le _⟩ d_Fl_loadWithin_28 (fun rr hrr => ?_)
        replace hrr : rr = a (18 + 3 * b + 1) q := hrr.trans ((congrArg (fun g9 => rwA g9 _ _) ch_ne).trans (rwA_sp (by omega)))
        subst hrr
        refine co_iast hC hK hM 6 (by omega) (fun _ => rfl) q (i := nI q) (x := a (18 + 3 * b + 1) q) (rfl) (by omega) (by decide) d_Fl_loadWithin_31 (fun H locs hM => ?_)
        replace hM : CO D cT (CA X) X (upd (upd (upd (upd I 51 0) 54 (nI n)) 55 (nI sz)) 56 en) (va_up (va_up (va_up (va_up a 6 (pt L (a (18 + 3 * b + 1)) 0 q)) 7 PD) 8 SK) 6 (upd (pt L (a (18 + 3 * b + 1)) 0 q) q (a (18 + 3 * b + 1) q))) s.heap H locs := hM
        rw [up_swap (i := 8) (j := 6) (by omega), up_swap (i := 7) (j := 6) (by omega), bx_uu] at hM
        refine lv_iinc (v := nI (q + 1)) (lv' := [(2, .int (nI (q + 1))), (0, .ref (X.1 5)), (1, .ref (X.1 (18 + 3 * b)))]) hx hb d_Fl_loadWithin_32 hl (k := 2) rfl (nI_add q 1) (by decide) rfl (fun ls hl => ?_)
        refine lv_goto (tgt := 7) hx hb d_Fl_loadWithin_35 (by decide) ?_
        exact ih7 (q + 1) _ _ _ (by omega) (by omega) (by rw [← pt0_succ L (a (18 + 3 * b + 1)) q (rfl)]; exact hM) (lv_sub hl [1, 2, 0] rfl)
  exact hL7 _ 0 _ _ _ (Nat.lt_succ_self _) (by omega) (by rw [pt_0]; exact hM) (lv_sub hl [1, 2, 0] rfl)
set_option maxHeartbeats 400000 in
set_option maxRecDepth 100000 in
theorem c_Fl_loadWithout (l : Launch) (D : va_G) (cT : Nat → ClassId) (X : CX) (I : Nat → Int32) (a : Nat → Nat → Int32) (b : Nat) (L PD SK : Nat → Int32) (lr n sz : Nat) (en : Int32)  (hbn : b < X.2.2.2.1) : CMv l D cT X y_Fl_loadWithout b_Fl_loadWithout 3 none 2 45 [.ref (X.1 5), .ref (X.1 (18 + 3 * b))] (upd (upd (upd (upd I 51 (nI lr)) 54 (nI n)) 55 (nI sz)) 56 en) (va_up (va_up (va_up a 6 L) 7 PD) 8 SK) (fun u => u = (upd (upd (upd (upd I 51 (nI 0)) 54 (nI n)) 55 (nI sz)) 56 en, va_up (va_up (va_up a 6 (pt L (fun q => 65534 &&& (a (18 + 3 * b + 1) q ^^^ (-1))) 0 225)) 7 PD) 8 SK)) := by
  refine co_entv (own := R_Fl) (by decide) rfl (Nat.le_of_ble_eq_true rfl) ?_
  intro p e s m args below meth c Q hC hK hM hret ls hl
  have hx := hC.1
  have hb := hC.2.1
  replace hl : lv_has ls 3 [(0, .ref (X.1 5)), (1, .ref (X.1 (18 + 3 * b)))] := hl
  refine lv_aload_n hx hb d_Fl_loadWithout_0 rfl (lv_at hl 0 rfl) ?_
  refine lv_iconst (v := 0) hx hb d_Fl_loadWithout_1 (by decide) ?_
  refine co_put hC in_Fl t_Fl t_Fl_ok n_Fl hK hM 5 (by omega) (cE_5) rfl 1 (by decide) wf_Fl_15 rfl rfl (ty := .int) (by decide +kernel) (x := 0) rfl rfl (Nat.le_of_ble_eq_true rfl) (by decide) (rfl) d_Fl_loadWithout_2 (fun H locs hM => ?_)
  replace hM : CO D cT (CA X) X (upd (upd (upd (upd (upd I 51 (nI lr)) 54 (nI n)) 55 (nI sz)) 56 en) 51 0) (va_up (va_up (va_up a 6 L) 7 PD) 8 SK) s.heap H locs := hM
  rw [upd_swap (i := 56) (j := 51) (by omega), upd_swap (i := 55) (j := 51) (by omega), upd_swap (i := 54) (j := 51) (by omega), upd_upd] at hM
  refine lv_iconst (v := 0) hx hb d_Fl_loadWithout_5 (by decide) ?_
  refine lv_istore_n (lv' := [(2, .int 0), (0, .ref (X.1 5)), (1, .ref (X.1 (18 + 3 * b)))]) hx hb d_Fl_loadWithout_6 rfl hl (by decide) rfl (fun ls hl => ?_)
  have hL7 : ∀ (nn : Nat) (q : Nat) (H : Heap) (locs : List Loc) (ls : Array Slot), 225 - q < nn → (q ≤ 225) → CO D cT (CA X) X (upd (upd (upd (upd I 51 0) 54 (nI n)) 55 (nI sz)) 56 en) (va_up (va_up (va_up a 6 (pt L (fun q => 65534 &&& (a (18 + 3 * b + 1) q ^^^ (-1))) 0 q)) 7 PD) 8 SK) s.heap H locs → lv_has ls 3 [(0, .ref (X.1 5)), (1, .ref (X.1 (18 + 3 * b))), (2, .int (nI q))] → W p l e (rmOf 2 45) s m args below meth c H locs 0 0 Q (F0 m 7 ls []) := by
    intro nn
    induction nn with
    | zero =>
      intro q H locs ls hmeas7 hq hM hl
      exact absurd hmeas7 (Nat.not_lt_zero _)
    | succ nn ih7 =>
      intro q H locs ls hmeas7 hq hM hl
      refine lv_iload_n hx hb d_Fl_loadWithout_7 rfl (lv_at hl 2 rfl) ?_
      refine lv_sipush (v := 225) hx hb d_Fl_loadWithout_8 (by decide) ?_
      refine nc_ge hx hb q 225 (by omega) (by omega) d_Fl_loadWithout_11 (tgt := 43) (by decide) (fun h1 => ?_) (fun h1 => ?_)
      · skip
        exact hret _ _ _ _ _ _ d_Fl_loadWithout_43 hM (by rw [show q = 225 by omega]; rfl)
      · skip
        refine lv_aload_n hx hb d_Fl_loadWithout_14 rfl (lv_at hl 0 rfl) ?_
        refine rd_get hC in_Fl hK hM.1 5 (cw_he (by omega) (cE_5)) rfl 0 (by decide) wf_Fl_9 rfl (v := .ref (X.1 6)) (rfl) d_Fl_loadWithout_15 ?_
        refine lv_iload_n hx hb d_Fl_loadWithout_18 rfl (lv_at hl 2 rfl) ?_
        refine lv_ldc (v := 65534) hx hb hC.2.2.2.1 (hC.2.2.2.2 _ wx_Fl_48) d_Fl_loadWithout_19 ?_
        refine lv_aload_n hx hb d_Fl_loadWithout_21 rfl (lv_at hl 1 rfl) ?_
        refine lv_iload_n hx hb d_Fl_loadWithout_22 rfl (lv_at hl 2 rfl) ?_
        refine st_calli (np := 1) hC (c_Fl_yOf l q (by omega)) ⟨wl_Fl_35, wt_Fl_yOf, wc_Fl_yOf, wn_Fl⟩ ⟨by decide, by decide, by decide +kernel⟩ ⟨Nat.le_of_ble_eq_true rfl, Nat.le_of_ble_eq_true rfl⟩ hl.1 rfl (rest := [.ref (X.1 (18 + 3 * b)), .int 65534, .int (nI q), .ref (X.1 6)]) rfl (Nat.le_of_ble_eq_true rfl) ⟨Nat.zero_le _, Nat.zero_le _⟩ d_Fl_loadWithout_23 (fun rr hrr => ?_)
        subst hrr
        refine lv_iload_n hx hb d_Fl_loadWithout_26 rfl (lv_at hl 2 rfl) ?_
        refine st_calli (np := 1) hC (c_Fl_zOf l q (by omega)) ⟨wl_Fl_39, wt_Fl_zOf, wc_Fl_zOf, wn_Fl⟩ ⟨by decide, by decide, by decide +kernel⟩ ⟨Nat.le_of_ble_eq_true rfl, Nat.le_of_ble_eq_true rfl⟩ hl.1 rfl (rest := [.int (iI ((↑(q % 15) : Int) + (-7))), .ref (X.1 (18 + 3 * b)), .int 65534, .int (nI q), .ref (X.1 6)]) rfl (Nat.le_of_ble_eq_true rfl) ⟨Nat.zero_le _, Nat.zero_le _⟩ d_Fl_loadWithout_27 (fun rr hrr => ?_)
        subst hrr
        refine rd_call (np := 2) hC hK hM.1 (cw_he (by omega) (cE_B b)) rfl (c_Bo_rowAt l D cT X (upd (upd (upd (upd I 51 0) 54 (nI n)) 55 (nI sz)) 56 en) (va_up (va_up (va_up a 6 (pt L (fun q => 65534 &&& (a (18 + 3 * b + 1) q ^^^ (-1))) 0 q)) 7 PD) 8 SK) b ((↑(q % 15) : Int) + (-7)) ((↑(q / 15) : Int) + (-7)) hbn (by omega) (by omega) (by omega) (by omega)) rfl ⟨wl_Fl_42, wi_Bo_rowAt, ws_Bo_rowAt, wc_Bo_rowAt, wn_Bo⟩ ⟨by decide, by decide, by decide +kernel⟩ ⟨Nat.le_of_ble_eq_true rfl, Nat.le_of_ble_eq_true rfl⟩ hl.1 rfl (rest := [.int 65534, .int (nI q), .ref (X.1 6)]) rfl (Nat.le_of_ble_eq_true rfl) ⟨Nat.zero_le _, Nat.zero_le _⟩ d_Fl_loadWithout_30 (fun rr hrr => ?_)
        replace hrr : rr = a (18 + 3 * b + 1) q := hrr.trans ((congrArg (fun g9 => rwA g9 _ _) ch_ne).trans (rwA_sp (by omega)))
        subst hrr
        refine lv_iconst (v := (-1)) hx hb d_Fl_loadWithout_33 (by decide) ?_
        refine lv_ixor hx hb d_Fl_loadWithout_34 ?_
        refine lv_iand hx hb d_Fl_loadWithout_35 ?_
        refine co_iast hC hK hM 6 (by omega) (fun _ => rfl) q (i := nI q) (x := 65534 &&& ((a (18 + 3 * b + 1) q) ^^^ (-1))) (rfl) (by omega) (by decide) d_Fl_loadWithout_36 (fun H locs hM => ?_)
        replace hM : CO D cT (CA X) X (upd (upd (upd (upd I 51 0) 54 (nI n)) 55 (nI sz)) 56 en) (va_up (va_up (va_up (va_up a 6 (pt L (fun q => 65534 &&& (a (18 + 3 * b + 1) q ^^^ (-1))) 0 q)) 7 PD) 8 SK) 6 (upd (pt L (fun q => 65534 &&& (a (18 + 3 * b + 1) q ^^^ (-1))) 0 q) q (65534 &&& ((a (18 + 3 * b + 1) q) ^^^ (-1))))) s.heap H locs := hM
        rw [up_swap (i := 8) (j := 6) (by omega), up_swap (i := 7) (j := 6) (by omega), bx_uu] at hM
        refine lv_iinc (v := nI (q + 1)) (lv' := [(2, .int (nI (q + 1))), (0, .ref (X.1 5)), (1, .ref (X.1 (18 + 3 * b)))]) hx hb d_Fl_loadWithout_37 hl (k := 2) rfl (nI_add q 1) (by decide) rfl (fun ls hl => ?_)
        refine lv_goto (tgt := 7) hx hb d_Fl_loadWithout_40 (by decide) ?_
        exact ih7 (q + 1) _ _ _ (by omega) (by omega) (by rw [← pt0_succ L (fun q => 65534 &&& (a (18 + 3 * b + 1) q ^^^ (-1))) q (rfl)]; exact hM) (lv_sub hl [1, 2, 0] rfl)
  exact hL7 _ 0 _ _ _ (Nat.lt_succ_self _) (by omega) (by rw [pt_0]; exact hM) (lv_sub hl [1, 2, 0] rfl)
set_option maxHeartbeats 400000 in
set_option maxRecDepth 100000 in
theorem c_Fl_loadSlice (l : Launch) (D : va_G) (cT : Nat → ClassId) (X : CX) (I : Nat → Int32) (a : Nat → Nat → Int32) (b : Nat) (zc : Int) (L PD SK : Nat → Int32) (lr n sz : Nat) (en : Int32)  (hbn : b < X.2.2.2.1) (hz1 : -7 ≤ zc) (hz2 : zc ≤ 7) : CMv l D cT X y_Fl_loadSlice b_Fl_loadSlice 4 none 2 45 [.ref (X.1 5), .ref (X.1 (18 + 3 * b)), .int (iI zc)] (upd (upd (upd (upd I 51 (nI lr)) 54 (nI n)) 55 (nI sz)) 56 en) (va_up (va_up (va_up a 6 L) 7 PD) 8 SK) (fun u => u = (upd (upd (upd (upd I 51 (nI 0)) 54 (nI n)) 55 (nI sz)) 56 en, va_up (va_up (va_up a 6 (pt L (fun q => if (↑(q / 15) : Int) + (-7) = zc then a (18 + 3 * b + 1) q else 0) 0 225)) 7 PD) 8 SK)) := by
  refine co_entv (own := R_Fl) (by decide) rfl (Nat.le_of_ble_eq_true rfl) ?_
  intro p e s m args below meth c Q hC hK hM hret ls hl
  have hx := hC.1
  have hb := hC.2.1
  replace hl : lv_has ls 4 [(0, .ref (X.1 5)), (1, .ref (X.1 (18 + 3 * b))), (2, .int (iI zc))] := hl
  refine lv_aload_n hx hb d_Fl_loadSlice_0 rfl (lv_at hl 0 rfl) ?_
  refine lv_iconst (v := 0) hx hb d_Fl_loadSlice_1 (by decide) ?_
  refine co_put hC in_Fl t_Fl t_Fl_ok n_Fl hK hM 5 (by omega) (cE_5) rfl 1 (by decide) wf_Fl_15 rfl rfl (ty := .int) (by decide +kernel) (x := 0) rfl rfl (Nat.le_of_ble_eq_true rfl) (by decide) (rfl) d_Fl_loadSlice_2 (fun H locs hM => ?_)
  replace hM : CO D cT (CA X) X (upd (upd (upd (upd (upd I 51 (nI lr)) 54 (nI n)) 55 (nI sz)) 56 en) 51 0) (va_up (va_up (va_up a 6 L) 7 PD) 8 SK) s.heap H locs := hM
  rw [upd_swap (i := 56) (j := 51) (by omega), upd_swap (i := 55) (j := 51) (by omega), upd_swap (i := 54) (j := 51) (by omega), upd_upd] at hM
  refine lv_iconst (v := 0) hx hb d_Fl_loadSlice_5 (by decide) ?_
  refine lv_istore_n (lv' := [(3, .int 0), (0, .ref (X.1 5)), (1, .ref (X.1 (18 + 3 * b))), (2, .int (iI zc))]) hx hb d_Fl_loadSlice_6 rfl hl (by decide) rfl (fun ls hl => ?_)
  have hL7 : ∀ (nn : Nat) (q : Nat) (H : Heap) (locs : List Loc) (ls : Array Slot), 225 - q < nn → (q ≤ 225) → CO D cT (CA X) X (upd (upd (upd (upd I 51 0) 54 (nI n)) 55 (nI sz)) 56 en) (va_up (va_up (va_up a 6 (pt L (fun q => if (↑(q / 15) : Int) + (-7) = zc then a (18 + 3 * b + 1) q else 0) 0 q)) 7 PD) 8 SK) s.heap H locs → lv_has ls 4 [(0, .ref (X.1 5)), (1, .ref (X.1 (18 + 3 * b))), (2, .int (iI zc)), (3, .int (nI q))] → W p l e (rmOf 2 45) s m args below meth c H locs 0 0 Q (F0 m 7 ls []) := by
    intro nn
    induction nn with
    | zero =>
      intro q H locs ls hmeas7 hq hM hl
      exact absurd hmeas7 (Nat.not_lt_zero _)
    | succ nn ih7 =>
      intro q H locs ls hmeas7 hq hM hl
      refine lv_iload_n hx hb d_Fl_loadSlice_7 rfl (lv_at hl 3 rfl) ?_
      refine lv_sipush (v := 225) hx hb d_Fl_loadSlice_8 (by decide) ?_
      refine nc_ge hx hb q 225 (by omega) (by omega) d_Fl_loadSlice_11 (tgt := 47) (by decide) (fun h1 => ?_) (fun h1 => ?_)
      · skip
        exact hret _ _ _ _ _ _ d_Fl_loadSlice_47 hM (by rw [show q = 225 by omega]; rfl)
      · skip
        refine lv_aload_n hx hb d_Fl_loadSlice_14 rfl (lv_at hl 0 rfl) ?_
        refine rd_get hC in_Fl hK hM.1 5 (cw_he (by omega) (cE_5)) rfl 0 (by decide) wf_Fl_9 rfl (v := .ref (X.1 6)) (rfl) d_Fl_loadSlice_15 ?_
        refine lv_iload_n hx hb d_Fl_loadSlice_18 rfl (lv_at hl 3 rfl) ?_
        refine lv_iload_n hx hb d_Fl_loadSlice_19 rfl (lv_at hl 3 rfl) ?_
        refine st_calli (np := 1) hC (c_Fl_zOf l q (by omega)) ⟨wl_Fl_39, wt_Fl_zOf, wc_Fl_zOf, wn_Fl⟩ ⟨by decide, by decide, by decide +kernel⟩ ⟨Nat.le_of_ble_eq_true rfl, Nat.le_of_ble_eq_true rfl⟩ hl.1 rfl (rest := [.int (nI q), .ref (X.1 6)]) rfl (Nat.le_of_ble_eq_true rfl) ⟨Nat.zero_le _, Nat.zero_le _⟩ d_Fl_loadSlice_20 (fun rr hrr => ?_)
        subst hrr
        refine lv_iload_n hx hb d_Fl_loadSlice_23 rfl (lv_at hl 2 rfl) ?_
        refine zc_ne hx hb ((↑(q / 15) : Int) + (-7)) zc (by omega) (by omega) (by omega) (by omega) d_Fl_loadSlice_24 (tgt := 39) (by decide) (fun h2 => ?_) (fun h2 => ?_)
        · skip
          refine lv_iconst (v := 0) hx hb d_Fl_loadSlice_39 (by decide) ?_
          refine co_iast hC hK hM 6 (by omega) (fun _ => rfl) q (i := nI q) (x := 0) (rfl) (by omega) (by decide) d_Fl_loadSlice_40 (fun H locs hM => ?_)
          replace hM : CO D cT (CA X) X (upd (upd (upd (upd I 51 0) 54 (nI n)) 55 (nI sz)) 56 en) (va_up (va_up (va_up (va_up a 6 (pt L (fun q => if (↑(q / 15) : Int) + (-7) = zc then a (18 + 3 * b + 1) q else 0) 0 q)) 7 PD) 8 SK) 6 (upd (pt L (fun q => if (↑(q / 15) : Int) + (-7) = zc then a (18 + 3 * b + 1) q else 0) 0 q) q 0)) s.heap H locs := hM
          rw [up_swap (i := 8) (j := 6) (by omega), up_swap (i := 7) (j := 6) (by omega), bx_uu] at hM
          refine lv_iinc (v := nI (q + 1)) (lv' := [(3, .int (nI (q + 1))), (0, .ref (X.1 5)), (1, .ref (X.1 (18 + 3 * b))), (2, .int (iI zc))]) hx hb d_Fl_loadSlice_41 hl (k := 3) rfl (nI_add q 1) (by decide) rfl (fun ls hl => ?_)
          refine lv_goto (tgt := 7) hx hb d_Fl_loadSlice_44 (by decide) ?_
          exact ih7 (q + 1) _ _ _ (by omega) (by omega) (by rw [← pt0_succ L (fun q => if (↑(q / 15) : Int) + (-7) = zc then a (18 + 3 * b + 1) q else 0) q (by show _ = (if (↑(q / 15) : Int) + (-7) = zc then a (18 + 3 * b + 1) q else 0); rw [if_neg h2])]; exact hM) (lv_sub hl [1, 2, 3, 0] rfl)
        · skip
          refine lv_aload_n hx hb d_Fl_loadSlice_27 rfl (lv_at hl 1 rfl) ?_
          refine lv_iload_n hx hb d_Fl_loadSlice_28 rfl (lv_at hl 3 rfl) ?_
          refine st_calli (np := 1) hC (c_Fl_yOf l q (by omega)) ⟨wl_Fl_35, wt_Fl_yOf, wc_Fl_yOf, wn_Fl⟩ ⟨by decide, by decide, by decide +kernel⟩ ⟨Nat.le_of_ble_eq_true rfl, Nat.le_of_ble_eq_true rfl⟩ hl.1 rfl (rest := [.ref (X.1 (18 + 3 * b)), .int (nI q), .ref (X.1 6)]) rfl (Nat.le_of_ble_eq_true rfl) ⟨Nat.zero_le _, Nat.zero_le _⟩ d_Fl_loadSlice_29 (fun rr hrr => ?_)
          subst hrr
          refine lv_iload_n hx hb d_Fl_loadSlice_32 rfl (lv_at hl 2 rfl) ?_
          refine rd_call (np := 2) hC hK hM.1 (cw_he (by omega) (cE_B b)) rfl (c_Bo_rowAt l D cT X (upd (upd (upd (upd I 51 0) 54 (nI n)) 55 (nI sz)) 56 en) (va_up (va_up (va_up a 6 (pt L (fun q => if (↑(q / 15) : Int) + (-7) = zc then a (18 + 3 * b + 1) q else 0) 0 q)) 7 PD) 8 SK) b ((↑(q % 15) : Int) + (-7)) zc hbn (by omega) (by omega) (by omega) (by omega)) rfl ⟨wl_Fl_42, wi_Bo_rowAt, ws_Bo_rowAt, wc_Bo_rowAt, wn_Bo⟩ ⟨by decide, by decide, by decide +kernel⟩ ⟨Nat.le_of_ble_eq_true rfl, Nat.le_of_ble_eq_true rfl⟩ hl.1 rfl (rest := [.int (nI q), .ref (X.1 6)]) rfl (Nat.le_of_ble_eq_true rfl) ⟨Nat.zero_le _, Nat.zero_le _⟩ d_Fl_loadSlice_33 (fun rr hrr => ?_)
          replace hrr : rr = a (18 + 3 * b + 1) q := hrr.trans ((congrArg (fun g9 => rwA g9 _ _) ch_ne).trans (by rw [← (by assumption : (↑(q / 15) : Int) + (-7) = zc)]; exact rwA_sp (by omega)))
          subst hrr
          refine lv_goto (tgt := 40) hx hb d_Fl_loadSlice_36 (by decide) ?_
          refine co_iast hC hK hM 6 (by omega) (fun _ => rfl) q (i := nI q) (x := a (18 + 3 * b + 1) q) (rfl) (by omega) (by decide) d_Fl_loadSlice_40 (fun H locs hM => ?_)
          replace hM : CO D cT (CA X) X (upd (upd (upd (upd I 51 0) 54 (nI n)) 55 (nI sz)) 56 en) (va_up (va_up (va_up (va_up a 6 (pt L (fun q => if (↑(q / 15) : Int) + (-7) = zc then a (18 + 3 * b + 1) q else 0) 0 q)) 7 PD) 8 SK) 6 (upd (pt L (fun q => if (↑(q / 15) : Int) + (-7) = zc then a (18 + 3 * b + 1) q else 0) 0 q) q (a (18 + 3 * b + 1) q))) s.heap H locs := hM
          rw [up_swap (i := 8) (j := 6) (by omega), up_swap (i := 7) (j := 6) (by omega), bx_uu] at hM
          refine lv_iinc (v := nI (q + 1)) (lv' := [(3, .int (nI (q + 1))), (0, .ref (X.1 5)), (1, .ref (X.1 (18 + 3 * b))), (2, .int (iI zc))]) hx hb d_Fl_loadSlice_41 hl (k := 3) rfl (nI_add q 1) (by decide) rfl (fun ls hl => ?_)
          refine lv_goto (tgt := 7) hx hb d_Fl_loadSlice_44 (by decide) ?_
          exact ih7 (q + 1) _ _ _ (by omega) (by omega) (by rw [← pt0_succ L (fun q => if (↑(q / 15) : Int) + (-7) = zc then a (18 + 3 * b + 1) q else 0) q (by show _ = (if (↑(q / 15) : Int) + (-7) = zc then a (18 + 3 * b + 1) q else 0); rw [if_pos h2])]; exact hM) (lv_sub hl [1, 2, 3, 0] rfl)
  exact hL7 _ 0 _ _ _ (Nat.lt_succ_self _) (by omega) (by rw [pt_0]; exact hM) (lv_sub hl [1, 2, 3, 0] rfl)
set_option maxHeartbeats 400000 in
set_option maxRecDepth 100000 in
theorem c_Fl_isLeft (l : Launch) (D : va_G) (cT : Nat → ClassId) (X : CX) (I : Nat → Int32) (a : Nat → Nat → Int32) (x : Int) (y : Int) (zc : Int) (L PD SK : Nat → Int32) (lr n sz : Nat) (en : Int32) (hx1 : -7 ≤ x) (hx2 : x ≤ 7) (hy1 : -7 ≤ y) (hy2 : y ≤ 7) (hz1 : -7 ≤ zc) (hz2 : zc ≤ 7) : RDi l D cT (cw cT X (upd (upd (upd (upd I 51 (nI lr)) 54 (nI n)) 55 (nI sz)) 56 en) (va_up (va_up (va_up a 6 L) 7 PD) 8 SK)) y_Fl_isLeft b_Fl_isLeft 5 (some .boolean) 1 22 [.ref (X.1 5), .int (iI x), .int (iI y), .int (iI zc)] (fun r => r = bI (bl L (nix x y zc) = true)) := by
  refine rd_entz (own := R_Fl) (by decide) rfl (Nat.le_of_ble_eq_true rfl) ?_
  intro p e s m args below meth c Q hC hK hP hret ls hl
  have hx := hC.1
  have hb := hC.2.1
  replace hl : lv_has ls 5 [(0, .ref (X.1 5)), (1, .int (iI x)), (2, .int (iI y)), (3, .int (iI zc))] := hl
  have hr9 : rpl y zc = 15 * (zc + 7) + (y + 7) := if_pos (by omega)
  have hn1 : (15 * (15 * (zc + 7) + (y + 7)).toNat + (x + 7).toNat) / 15 = (rpl y zc).toNat := by rw [hr9]; omega
  have hn2 : (15 * (15 * (zc + 7) + (y + 7)).toNat + (x + 7).toNat) % 15 = (x + 7).toNat := by omega
  have hn3 : (x + 7).toNat + 1 = (x + 8).toNat := by omega
  refine lv_iload_n hx hb d_Fl_isLeft_0 rfl (lv_at hl 2 rfl) ?_
  refine lv_iload_n hx hb d_Fl_isLeft_1 rfl (lv_at hl 3 rfl) ?_
  refine st_calliN (np := 2) hC hK (c_So_rowPlace l y zc (by omega) (by omega) (by omega) (by omega)) ⟨wL_Fl_62, wt_So_rowPlace, wc_So_rowPlace, wn_So⟩ ⟨by decide, by decide, by decide +kernel⟩ ⟨Nat.le_of_ble_eq_true rfl, Nat.le_of_ble_eq_true rfl⟩ hl.1 rfl (rest := []) rfl (Nat.le_of_ble_eq_true rfl) ⟨Nat.zero_le _, Nat.zero_le _⟩ d_Fl_isLeft_2 (fun rr hrr => ?_)
  subst hrr
  refine lv_istore (lv' := [(4, .int (iI (rpl y zc))), (0, .ref (X.1 5)), (1, .int (iI x)), (2, .int (iI y)), (3, .int (iI zc))]) hx hb d_Fl_isLeft_5 hl (by decide) rfl (fun ls hl => ?_)
  refine lv_iload hx hb d_Fl_isLeft_7 (lv_at hl 0 rfl) ?_
  refine zz_lt hx hb (rpl y zc) (by omega) (by omega) d_Fl_isLeft_9 (tgt := 41) (by decide) (fun h1 => ?_) (fun h1 => ?_)
  · skip
    refine lv_iconst (v := 0) hx hb d_Fl_isLeft_41 (by decide) ?_
    exact hret _ _ _ d_Fl_isLeft_42 (by first | exact Or.inl rfl | exact Or.inr rfl | assumption) (by exfalso; omega)
  · skip
    refine lv_iload hx hb d_Fl_isLeft_12 (lv_at hl 0 rfl) ?_
    refine lv_sipush (v := 225) hx hb d_Fl_isLeft_14 (by decide) ?_
    refine zc_ge hx hb (rpl y zc) 225 (by omega) (by omega) (by omega) (by omega) d_Fl_isLeft_17 (tgt := 41) (by decide) (fun h2 => ?_) (fun h2 => ?_)
    · skip
      refine lv_iconst (v := 0) hx hb d_Fl_isLeft_41 (by decide) ?_
      exact hret _ _ _ d_Fl_isLeft_42 (by first | exact Or.inl rfl | exact Or.inr rfl | assumption) (by exfalso; omega)
    · skip
      refine lv_aload_n hx hb d_Fl_isLeft_20 rfl (lv_at hl 1 rfl) ?_
      refine rd_get hC in_Fl hK hP 5 (cw_he (by omega) (cE_5)) rfl 0 (by decide) wf_Fl_9 rfl (v := .ref (X.1 6)) (rfl) d_Fl_isLeft_21 ?_
      refine lv_iload hx hb d_Fl_isLeft_24 (lv_at hl 0 rfl) ?_
      refine rd_iald hC hK hP 6 (cw_he (by omega) (cE_6)) ((rpl y zc).toNat) (i := iI (rpl y zc)) (by rw [nI_iI, Int.toNat_of_nonneg (by omega)]) (by omega) (by decide) (v := L ((rpl y zc).toNat)) (congrFun ((va_up_ne _ _ (by omega)).trans ((va_up_ne _ _ (by omega)).trans (va_up_self _ _ _))) _) d_Fl_isLeft_26 ?_
      refine lv_iconst (v := 1) hx hb d_Fl_isLeft_27 (by decide) ?_
      refine lv_iload_n hx hb d_Fl_isLeft_28 rfl (lv_at hl 2 rfl) ?_
      refine lv_bipush (v := 8) hx hb d_Fl_isLeft_29 (by decide) ?_
      refine lv_iadd hx hb d_Fl_isLeft_31 ?_
      refine topi_eq (iI_add x 8) ?_
      refine topi_eq (show iI (x + 8) = nI (x + 8).toNat by rw [nI_iI, Int.toNat_of_nonneg (by omega)]) ?_
      refine lv_ishl hx hb d_Fl_isLeft_32 ?_
      refine lv_iand hx hb d_Fl_isLeft_33 ?_
      refine lv_if_eq (tgt := 41) hx hb d_Fl_isLeft_34 (by decide) (fun h3 => ?_) (fun h3 => ?_)
      · skip
        refine lv_iconst (v := 0) hx hb d_Fl_isLeft_41 (by decide) ?_
        exact hret _ _ _ d_Fl_isLeft_42 (by first | exact Or.inl rfl | exact Or.inr rfl | assumption) ((bI_f (by unfold bl nix; rw [hn1, hn2, hn3, (bit_0 (by omega)).mp h3]; decide)).symm)
      · skip
        refine lv_iconst (v := 1) hx hb d_Fl_isLeft_37 (by decide) ?_
        refine lv_goto (tgt := 42) hx hb d_Fl_isLeft_38 (by decide) ?_
        exact hret _ _ _ d_Fl_isLeft_42 (by first | exact Or.inl rfl | exact Or.inr rfl | assumption) ((bI_t (by unfold bl nix; rw [hn1, hn2, hn3]; exact ts_nf9 (fun z9 => h3 ((bit_0 (by omega)).mpr z9)))).symm)
set_option maxHeartbeats 400000 in
set_option maxRecDepth 100000 in
theorem c_Fl_countPieces (l : Launch) (D : va_G) (cT : Nat → ClassId) (X : CX) (I : Nat → Int32) (a : Nat → Nat → Int32)  (L PD SK : Nat → Int32) (lr n sz : Nat) (en : Int32) (S : Nat → Bool) (hFK : FK L PD lr) (hS : ∀ k, k < 3375 → bl L k = S k) : CMi l D cT X y_Fl_countPieces b_Fl_countPieces 2 (some .int) 4 91 [.ref (X.1 5)] (upd (upd (upd (upd I 51 (nI lr)) 54 (nI n)) 55 (nI sz)) 56 en) (va_up (va_up (va_up a 6 L) 7 PD) 8 SK) (fun r u => ∃ L' P' S' lr' n' sz' en', u = (upd (upd (upd (upd I 51 (nI lr')) 54 (nI n')) 55 (nI sz')) 56 en', va_up (va_up (va_up a 6 L') 7 P') 8 S') ∧ FK L' P' lr' ∧ r = nI (cn (plS S) 3375)) := by
  refine co_enti (own := R_Fl) (by decide) rfl (Nat.le_of_ble_eq_true rfl) ?_
  intro p e s m args below meth c Q hC hK hM hret ls hl
  have hx := hC.1
  have hb := hC.2.1
  replace hl : lv_has ls 2 [(0, .ref (X.1 5))] := hl
  refine lv_iconst (v := 0) hx hb d_Fl_countPieces_0 (by decide) ?_
  refine lv_istore_n (lv' := [(1, .int 0), (0, .ref (X.1 5))]) hx hb d_Fl_countPieces_1 rfl hl (by decide) rfl (fun ls hl => ?_)
  have hL2 : ∀ (nn : Nat) (c9 : Nat) (L2 : Nat → Int32) (P2 : Nat → Int32) (S2 : Nat → Int32) (lr2 : Nat) (n2 : Nat) (sz2 : Nat) (en2 : Int32) (H : Heap) (locs : List Loc) (ls : Array Slot), 3375 - c9 < nn → (c9 ≤ 3375) → (FK L2 P2 lr2) → (LF S c9 L2) → CO D cT (CA X) X (upd (upd (upd (upd I 51 (nI lr2)) 54 (nI n2)) 55 (nI sz2)) 56 en2) (va_up (va_up (va_up a 6 L2) 7 P2) 8 S2) s.heap H locs → lv_has ls 2 [(0, .ref (X.1 5)), (1, .int (nI (cn (plS S) c9)))] → W p l e (rmOf 4 91) s m args below meth c H locs 0 0 Q (F0 m 2 ls []) := by
    intro nn
    induction nn with
    | zero =>
      intro c9 L2 P2 S2 lr2 n2 sz2 en2 H locs ls hmeas2 hc hF2 hLF hM hl
      exact absurd hmeas2 (Nat.not_lt_zero _)
    | succ nn ih2 =>
      intro c9 L2 P2 S2 lr2 n2 sz2 en2 H locs ls hmeas2 hc hF2 hLF hM hl
      refine lv_iload_n hx hb d_Fl_countPieces_2 rfl (lv_at hl 1 rfl) ?_
      refine lv_sipush (v := 3375) hx hb d_Fl_countPieces_3 (by decide) ?_
      refine nc_ge hx hb (cn (plS S) c9) 3375 (by have := cn_le (plS S) c9; omega) (by have := cn_le (plS S) c9; omega) d_Fl_countPieces_6 (tgt := 22) (by decide) (fun h1 => ?_) (fun h1 => ?_)
      · skip
        refine lv_iload_n hx hb d_Fl_countPieces_22 rfl (lv_at hl 1 rfl) ?_
        refine hret _ _ _ _ _ _ _ d_Fl_countPieces_23 hM ?_
        obtain rfl : c9 = 3375 := by have := cn_le (plS S) c9; omega
        refine ⟨_, _, _, _, _, _, _, rfl, hF2, ?_⟩
        have hst9 : ∀ j, 3375 ≤ j → j < 3375 → plS S j = false := fun j h1 h2 => by omega
        rw [cn_fin (p := plS S) (by omega) hst9]
      · skip
        refine lv_aload_n hx hb d_Fl_countPieces_9 rfl (lv_at hl 0 rfl) ?_
        refine co_calli (np := 0) hC hK hM (k := 5) (by omega) (cE_5) rfl (c_Fl_takePiece l D cT X I a L2 P2 S2 lr2 n2 sz2 en2 hF2) rfl ⟨wl_Fl_49, wi_Fl_takePiece, ws_Fl_takePiece, wc_Fl_takePiece, wn_Fl⟩ ⟨by decide, by decide, by decide +kernel⟩ ⟨Nat.le_of_ble_eq_true rfl, Nat.le_of_ble_eq_true rfl⟩ hl.1 rfl (rest := []) rfl (Nat.le_of_ble_eq_true rfl) ⟨Nat.zero_le _, Nat.zero_le _⟩ d_Fl_countPieces_10 (fun rr2 I2 a2 H locs hp2 hM => ?_)
        obtain ⟨L2, P2, S2, lr2, n2, sz2, en2, e2, hF2, hT2⟩ := hp2
        cases e2
        have hZ2 := tk_or hT2
        refine lv_if_eq (tgt := 22) hx hb d_Fl_countPieces_13 (by decide) (fun h3 => ?_) (fun h3 => ?_)
        · skip
          refine lv_iload_n hx hb d_Fl_countPieces_22 rfl (lv_at hl 1 rfl) ?_
          refine hret _ _ _ _ _ _ _ d_Fl_countPieces_23 hM ?_
          refine ⟨_, _, _, _, _, _, _, rfl, hF2, ?_⟩
          have hst9 := LF_stop hLF (hZ2.1 h3)
          rw [cn_fin (p := plS S) (by omega) hst9]
        · skip
          refine lv_iinc (v := nI ((cn (plS S) c9) + 1)) (lv' := [(1, .int (nI ((cn (plS S) c9) + 1))), (0, .ref (X.1 5))]) hx hb d_Fl_countPieces_16 hl (k := 1) rfl (nI_add (cn (plS S) c9) 1) (by decide) rfl (fun ls hl => ?_)
          refine lv_goto (tgt := 2) hx hb d_Fl_countPieces_19 (by decide) ?_
          obtain ⟨f9, g1, g2, g3, g4, g5, g6, g7, g8⟩ := LF_step hc hLF (hZ2.2 h3)
          exact ih2 (f9 + 1) L2 P2 S2 lr2 n2 sz2 en2 _ _ _ (by omega) (by omega) (hF2) (g3) (hM) (by rw [cn_nx g1 g5 g4]; exact lv_sub hl [1, 0] rfl)
  exact hL2 _ 0 L PD SK lr n sz en _ _ _ (Nat.lt_succ_self _) (by omega) (hFK) (LF_0 hS) (hM) (lv_sub hl [1, 0] rfl)
set_option maxHeartbeats 400000 in
set_option maxRecDepth 100000 in
theorem c_Fl_greatestPiece (l : Launch) (D : va_G) (cT : Nat → ClassId) (X : CX) (I : Nat → Int32) (a : Nat → Nat → Int32)  (L PD SK : Nat → Int32) (lr n sz : Nat) (en : Int32) (S : Nat → Bool) (hFK : FK L PD lr) (hS : ∀ k, k < 3375 → bl L k = S k) : CMi l D cT X y_Fl_greatestPiece b_Fl_greatestPiece 3 (some .int) 4 91 [.ref (X.1 5)] (upd (upd (upd (upd I 51 (nI lr)) 54 (nI n)) 55 (nI sz)) 56 en) (va_up (va_up (va_up a 6 L) 7 PD) 8 SK) (fun r u => ∃ L' P' S' lr' n' sz' en', u = (upd (upd (upd (upd I 51 (nI lr')) 54 (nI n')) 55 (nI sz')) 56 en', va_up (va_up (va_up a 6 L') 7 P') 8 S') ∧ FK L' P' lr' ∧ r = nI (gmx (plS S) (szS S) 3375)) := by
  refine co_enti (own := R_Fl) (by decide) rfl (Nat.le_of_ble_eq_true rfl) ?_
  intro p e s m args below meth c Q hC hK hM hret ls hl
  have hx := hC.1
  have hb := hC.2.1
  replace hl : lv_has ls 3 [(0, .ref (X.1 5))] := hl
  refine lv_iconst (v := 0) hx hb d_Fl_greatestPiece_0 (by decide) ?_
  refine lv_istore_n (lv' := [(1, .int 0), (0, .ref (X.1 5))]) hx hb d_Fl_greatestPiece_1 rfl hl (by decide) rfl (fun ls hl => ?_)
  refine lv_iconst (v := 0) hx hb d_Fl_greatestPiece_2 (by decide) ?_
  refine lv_istore_n (lv' := [(2, .int 0), (1, .int 0), (0, .ref (X.1 5))]) hx hb d_Fl_greatestPiece_3 rfl hl (by decide) rfl (fun ls hl => ?_)
  have hL4 : ∀ (nn : Nat) (c9 : Nat) (L2 : Nat → Int32) (P2 : Nat → Int32) (S2 : Nat → Int32) (lr2 : Nat) (n2 : Nat) (sz2 : Nat) (en2 : Int32) (H : Heap) (locs : List Loc) (ls : Array Slot), 3375 - c9 < nn → (c9 ≤ 3375) → (FK L2 P2 lr2) → (LF S c9 L2) → CO D cT (CA X) X (upd (upd (upd (upd I 51 (nI lr2)) 54 (nI n2)) 55 (nI sz2)) 56 en2) (va_up (va_up (va_up a 6 L2) 7 P2) 8 S2) s.heap H locs → lv_has ls 3 [(0, .ref (X.1 5)), (1, .int (nI (gmx (plS S) (szS S) c9))), (2, .int (nI (cn (plS S) c9)))] → W p l e (rmOf 4 91) s m args below meth c H locs 0 0 Q (F0 m 4 ls []) := by
    intro nn
    induction nn with
    | zero =>
      intro c9 L2 P2 S2 lr2 n2 sz2 en2 H locs ls hmeas4 hc hF2 hLF hM hl
      exact absurd hmeas4 (Nat.not_lt_zero _)
    | succ nn ih4 =>
      intro c9 L2 P2 S2 lr2 n2 sz2 en2 H locs ls hmeas4 hc hF2 hLF hM hl
      refine lv_iload_n hx hb d_Fl_greatestPiece_4 rfl (lv_at hl 2 rfl) ?_
      refine lv_sipush (v := 3375) hx hb d_Fl_greatestPiece_5 (by decide) ?_
      refine nc_ge hx hb (cn (plS S) c9) 3375 (by have := cn_le (plS S) c9; omega) (by have := cn_le (plS S) c9; omega) d_Fl_greatestPiece_8 (tgt := 33) (by decide) (fun h1 => ?_) (fun h1 => ?_)
      · skip
        refine lv_iload_n hx hb d_Fl_greatestPiece_33 rfl (lv_at hl 1 rfl) ?_
        refine hret _ _ _ _ _ _ _ d_Fl_greatestPiece_34 hM ?_
        obtain rfl : c9 = 3375 := by have := cn_le (plS S) c9; omega
        refine ⟨_, _, _, _, _, _, _, rfl, hF2, ?_⟩
        have hst9 : ∀ j, 3375 ≤ j → j < 3375 → plS S j = false := fun j h1 h2 => by omega
        rw [(gm_fin (p := plS S) (g := szS S) (by omega) hst9).1]
      · skip
        refine lv_aload_n hx hb d_Fl_greatestPiece_11 rfl (lv_at hl 0 rfl) ?_
        refine co_calli (np := 0) hC hK hM (k := 5) (by omega) (cE_5) rfl (c_Fl_takePiece l D cT X I a L2 P2 S2 lr2 n2 sz2 en2 hF2) rfl ⟨wl_Fl_49, wi_Fl_takePiece, ws_Fl_takePiece, wc_Fl_takePiece, wn_Fl⟩ ⟨by decide, by decide, by decide +kernel⟩ ⟨Nat.le_of_ble_eq_true rfl, Nat.le_of_ble_eq_true rfl⟩ hl.1 rfl (rest := []) rfl (Nat.le_of_ble_eq_true rfl) ⟨Nat.zero_le _, Nat.zero_le _⟩ d_Fl_greatestPiece_12 (fun rr2 I2 a2 H locs hp2 hM => ?_)
        obtain ⟨L2, P2, S2, lr2, n2, sz2, en2, e2, hF2, hT2⟩ := hp2
        cases e2
        have hZ2 := tk_or hT2
        refine lv_if_eq (tgt := 33) hx hb d_Fl_greatestPiece_15 (by decide) (fun h3 => ?_) (fun h3 => ?_)
        · skip
          refine lv_iload_n hx hb d_Fl_greatestPiece_33 rfl (lv_at hl 1 rfl) ?_
          refine hret _ _ _ _ _ _ _ d_Fl_greatestPiece_34 hM ?_
          refine ⟨_, _, _, _, _, _, _, rfl, hF2, ?_⟩
          have hst9 := LF_stop hLF (hZ2.1 h3)
          rw [(gm_fin (p := plS S) (g := szS S) (by omega) hst9).1]
        · skip
          obtain ⟨f9, g1, g2, g3, g4, g5, g6, g7, g8⟩ := LF_step hc hLF (hZ2.2 (by assumption))
          have hs9 : sz2 ≤ 3375 := by rw [g6]; exact cn_le _ _
          have hg9 := gmx_le (p := plS S) (f := szS S) (B := 3375) (fun k => cn_le _ _) c9
          refine lv_iload_n hx hb d_Fl_greatestPiece_18 rfl (lv_at hl 1 rfl) ?_
          refine lv_aload_n hx hb d_Fl_greatestPiece_19 rfl (lv_at hl 0 rfl) ?_
          refine rd_get hC in_Fl hK hM.1 5 (cw_he (by omega) (cE_5)) rfl 5 (by decide) wf_Fl_28 rfl (v := .int (nI sz2)) (congrArg (fun z : Int32 => some (Value.int z)) ((pk_un (by omega)).trans (pk_us))) d_Fl_greatestPiece_20 ?_
          refine st_calli (np := 2) hC (c_Ma_max l (↑(gmx (plS S) (szS S) c9) : Int) (↑sz2 : Int) (by omega) (by omega) (by omega) (by omega)) ⟨wl_Fl_53, wt_Ma_max, wc_Ma_max, wn_Ma⟩ ⟨by decide, by decide, by decide +kernel⟩ ⟨Nat.le_of_ble_eq_true rfl, Nat.le_of_ble_eq_true rfl⟩ hl.1 rfl (rest := []) rfl (Nat.le_of_ble_eq_true rfl) ⟨Nat.zero_le _, Nat.zero_le _⟩ d_Fl_greatestPiece_23 (fun rr hrr => ?_)
          subst hrr
          refine lv_istore_n (lv' := [(1, .int (iI (mx (↑(gmx (plS S) (szS S) c9) : Int) (↑sz2 : Int)))), (0, .ref (X.1 5)), (2, .int (nI (cn (plS S) c9)))]) hx hb d_Fl_greatestPiece_26 rfl hl (by decide) rfl (fun ls hl => ?_)
          refine lv_iinc (v := nI ((cn (plS S) c9) + 1)) (lv' := [(2, .int (nI ((cn (plS S) c9) + 1))), (1, .int (iI (mx (↑(gmx (plS S) (szS S) c9) : Int) (↑sz2 : Int)))), (0, .ref (X.1 5))]) hx hb d_Fl_greatestPiece_27 hl (k := 2) rfl (nI_add (cn (plS S) c9) 1) (by decide) rfl (fun ls hl => ?_)
          refine lv_goto (tgt := 4) hx hb d_Fl_greatestPiece_30 (by decide) ?_
          exact ih4 (f9 + 1) L2 P2 S2 lr2 n2 sz2 en2 _ _ _ (by omega) (by omega) (hF2) (g3) (hM) (by rw [cn_nx g1 g5 g4, ← mx_gm g1 g5 g4, ← g6]; exact lv_sub hl [2, 1, 0] rfl)
  exact hL4 _ 0 L PD SK lr n sz en _ _ _ (Nat.lt_succ_self _) (by omega) (hFK) (LF_0 hS) (hM) (lv_sub hl [2, 1, 0] rfl)
set_option maxHeartbeats 400000 in
set_option maxRecDepth 100000 in
theorem c_Fl_countShutPieces (l : Launch) (D : va_G) (cT : Nat → ClassId) (X : CX) (I : Nat → Int32) (a : Nat → Nat → Int32)  (L PD SK : Nat → Int32) (lr n sz : Nat) (en : Int32) (S : Nat → Bool) (hFK : FK L PD lr) (hS : ∀ k, k < 3375 → bl L k = S k) : CMi l D cT X y_Fl_countShutPieces b_Fl_countShutPieces 3 (some .int) 4 91 [.ref (X.1 5)] (upd (upd (upd (upd I 51 (nI lr)) 54 (nI n)) 55 (nI sz)) 56 en) (va_up (va_up (va_up a 6 L) 7 PD) 8 SK) (fun r u => ∃ L' P' S' lr' n' sz' en', u = (upd (upd (upd (upd I 51 (nI lr')) 54 (nI n')) 55 (nI sz')) 56 en', va_up (va_up (va_up a 6 L') 7 P') 8 S') ∧ FK L' P' lr' ∧ r = nI (cn (fun k => plS S k && shS S k) 3375)) := by
  refine co_enti (own := R_Fl) (by decide) rfl (Nat.le_of_ble_eq_true rfl) ?_
  intro p e s m args below meth c Q hC hK hM hret ls hl
  have hx := hC.1
  have hb := hC.2.1
  replace hl : lv_has ls 3 [(0, .ref (X.1 5))] := hl
  refine lv_iconst (v := 0) hx hb d_Fl_countShutPieces_0 (by decide) ?_
  refine lv_istore_n (lv' := [(1, .int 0), (0, .ref (X.1 5))]) hx hb d_Fl_countShutPieces_1 rfl hl (by decide) rfl (fun ls hl => ?_)
  refine lv_iconst (v := 0) hx hb d_Fl_countShutPieces_2 (by decide) ?_
  refine lv_istore_n (lv' := [(2, .int 0), (1, .int 0), (0, .ref (X.1 5))]) hx hb d_Fl_countShutPieces_3 rfl hl (by decide) rfl (fun ls hl => ?_)
  have hL4 : ∀ (nn : Nat) (c9 : Nat) (L2 : Nat → Int32) (P2 : Nat → Int32) (S2 : Nat → Int32) (lr2 : Nat) (n2 : Nat) (sz2 : Nat) (en2 : Int32) (H : Heap) (locs : List Loc) (ls : Array Slot), 3375 - c9 < nn → (c9 ≤ 3375) → (FK L2 P2 lr2) → (LF S c9 L2) → CO D cT (CA X) X (upd (upd (upd (upd I 51 (nI lr2)) 54 (nI n2)) 55 (nI sz2)) 56 en2) (va_up (va_up (va_up a 6 L2) 7 P2) 8 S2) s.heap H locs → lv_has ls 3 [(0, .ref (X.1 5)), (1, .int (nI (cn (fun k => plS S k && shS S k) c9))), (2, .int (nI (cn (plS S) c9)))] → W p l e (rmOf 4 91) s m args below meth c H locs 0 0 Q (F0 m 4 ls []) := by
    intro nn
    induction nn with
    | zero =>
      intro c9 L2 P2 S2 lr2 n2 sz2 en2 H locs ls hmeas4 hc hF2 hLF hM hl
      exact absurd hmeas4 (Nat.not_lt_zero _)
    | succ nn ih4 =>
      intro c9 L2 P2 S2 lr2 n2 sz2 en2 H locs ls hmeas4 hc hF2 hLF hM hl
      refine lv_iload_n hx hb d_Fl_countShutPieces_4 rfl (lv_at hl 2 rfl) ?_
      refine lv_sipush (v := 3375) hx hb d_Fl_countShutPieces_5 (by decide) ?_
      refine nc_ge hx hb (cn (plS S) c9) 3375 (by have := cn_le (plS S) c9; omega) (by have := cn_le (plS S) c9; omega) d_Fl_countShutPieces_8 (tgt := 39) (by decide) (fun h1 => ?_) (fun h1 => ?_)
      · skip
        refine lv_iload_n hx hb d_Fl_countShutPieces_39 rfl (lv_at hl 1 rfl) ?_
        refine hret _ _ _ _ _ _ _ d_Fl_countShutPieces_40 hM ?_
        obtain rfl : c9 = 3375 := by have := cn_le (plS S) c9; omega
        refine ⟨_, _, _, _, _, _, _, rfl, hF2, ?_⟩
        have hst9 : ∀ j, 3375 ≤ j → j < 3375 → plS S j = false := fun j h1 h2 => by omega
        rw [cn_fin (p := (fun k => plS S k && shS S k)) (by omega) (fun j a1 a2 => by show (plS S j && shS S j) = false; rw [hst9 j a1 a2]; rfl)]
      · skip
        refine lv_aload_n hx hb d_Fl_countShutPieces_11 rfl (lv_at hl 0 rfl) ?_
        refine co_calli (np := 0) hC hK hM (k := 5) (by omega) (cE_5) rfl (c_Fl_takePiece l D cT X I a L2 P2 S2 lr2 n2 sz2 en2 hF2) rfl ⟨wl_Fl_49, wi_Fl_takePiece, ws_Fl_takePiece, wc_Fl_takePiece, wn_Fl⟩ ⟨by decide, by decide, by decide +kernel⟩ ⟨Nat.le_of_ble_eq_true rfl, Nat.le_of_ble_eq_true rfl⟩ hl.1 rfl (rest := []) rfl (Nat.le_of_ble_eq_true rfl) ⟨Nat.zero_le _, Nat.zero_le _⟩ d_Fl_countShutPieces_12 (fun rr2 I2 a2 H locs hp2 hM => ?_)
        obtain ⟨L2, P2, S2, lr2, n2, sz2, en2, e2, hF2, hT2⟩ := hp2
        cases e2
        have hZ2 := tk_or hT2
        refine lv_if_eq (tgt := 39) hx hb d_Fl_countShutPieces_15 (by decide) (fun h3 => ?_) (fun h3 => ?_)
        · skip
          refine lv_iload_n hx hb d_Fl_countShutPieces_39 rfl (lv_at hl 1 rfl) ?_
          refine hret _ _ _ _ _ _ _ d_Fl_countShutPieces_40 hM ?_
          refine ⟨_, _, _, _, _, _, _, rfl, hF2, ?_⟩
          have hst9 := LF_stop hLF (hZ2.1 h3)
          rw [cn_fin (p := (fun k => plS S k && shS S k)) (by omega) (fun j a1 a2 => by show (plS S j && shS S j) = false; rw [hst9 j a1 a2]; rfl)]
        · skip
          refine lv_iload_n hx hb d_Fl_countShutPieces_18 rfl (lv_at hl 1 rfl) ?_
          refine lv_aload_n hx hb d_Fl_countShutPieces_19 rfl (lv_at hl 0 rfl) ?_
          refine rd_get hC in_Fl hK hM.1 5 (cw_he (by omega) (cE_5)) rfl 6 (by decide) wf_Fl_31 rfl (v := .int en2) (congrArg (fun z : Int32 => some (Value.int z)) (pk_us)) d_Fl_countShutPieces_20 ?_
          refine lv_if_eq (tgt := 30) hx hb d_Fl_countShutPieces_23 (by decide) (fun h4 => ?_) (fun h4 => ?_)
          · skip
            refine lv_iconst (v := 1) hx hb d_Fl_countShutPieces_30 (by decide) ?_
            refine lv_iadd hx hb d_Fl_countShutPieces_31 ?_
            refine topi_eq (nI_add (cn (fun k => plS S k && shS S k) c9) 1) ?_
            refine lv_istore_n (lv' := [(1, .int (nI ((cn (fun k => plS S k && shS S k) c9) + 1))), (0, .ref (X.1 5)), (2, .int (nI (cn (plS S) c9)))]) hx hb d_Fl_countShutPieces_32 rfl hl (by decide) rfl (fun ls hl => ?_)
            refine lv_iinc (v := nI ((cn (plS S) c9) + 1)) (lv' := [(2, .int (nI ((cn (plS S) c9) + 1))), (1, .int (nI ((cn (fun k => plS S k && shS S k) c9) + 1))), (0, .ref (X.1 5))]) hx hb d_Fl_countShutPieces_33 hl (k := 2) rfl (nI_add (cn (plS S) c9) 1) (by decide) rfl (fun ls hl => ?_)
            refine lv_goto (tgt := 4) hx hb d_Fl_countShutPieces_36 (by decide) ?_
            obtain ⟨f9, g1, g2, g3, g4, g5, g6, g7, g8⟩ := LF_step hc hLF (hZ2.2 h3)
            exact ih4 (f9 + 1) L2 P2 S2 lr2 n2 sz2 en2 _ _ _ (by omega) (by omega) (hF2) (g3) (hM) (by rw [cn_nx g1 g5 g4, cn_nx (p := (fun k => plS S k && shS S k)) g1 (fun j a1 a2 => by show (plS S j && shS S j) = false; rw [g5 j a1 a2]; rfl) (by show (plS S f9 && shS S f9) = true; rw [g4, (show shS S f9 = true by rcases g7 with z9 | z9; (exact absurd (z9.1.symm.trans h4) (by decide)); (exact z9.2))]; rfl)]; exact lv_sub hl [2, 1, 0] rfl)
          · skip
            refine lv_iconst (v := 0) hx hb d_Fl_countShutPieces_26 (by decide) ?_
            refine lv_goto (tgt := 31) hx hb d_Fl_countShutPieces_27 (by decide) ?_
            refine lv_iadd hx hb d_Fl_countShutPieces_31 ?_
            refine topi_eq (nI_add (cn (fun k => plS S k && shS S k) c9) 0) ?_
            refine lv_istore_n (lv' := [(1, .int (nI ((cn (fun k => plS S k && shS S k) c9) + 0))), (0, .ref (X.1 5)), (2, .int (nI (cn (plS S) c9)))]) hx hb d_Fl_countShutPieces_32 rfl hl (by decide) rfl (fun ls hl => ?_)
            refine lv_iinc (v := nI ((cn (plS S) c9) + 1)) (lv' := [(2, .int (nI ((cn (plS S) c9) + 1))), (1, .int (nI ((cn (fun k => plS S k && shS S k) c9) + 0))), (0, .ref (X.1 5))]) hx hb d_Fl_countShutPieces_33 hl (k := 2) rfl (nI_add (cn (plS S) c9) 1) (by decide) rfl (fun ls hl => ?_)
            refine lv_goto (tgt := 4) hx hb d_Fl_countShutPieces_36 (by decide) ?_
            obtain ⟨f9, g1, g2, g3, g4, g5, g6, g7, g8⟩ := LF_step hc hLF (hZ2.2 h3)
            exact ih4 (f9 + 1) L2 P2 S2 lr2 n2 sz2 en2 _ _ _ (by omega) (by omega) (hF2) (g3) (hM) (by rw [cn_nx g1 g5 g4, cn_no2 (p := (fun k => plS S k && shS S k)) g1 (fun j a1 a2 => by show (plS S j && shS S j) = false; rw [g5 j a1 a2]; rfl) (by show (plS S f9 && shS S f9) = false; rw [(show shS S f9 = false by rcases g7 with z9 | z9; (exact z9.2); (exact absurd z9.1 h4))]; exact Bool.and_false _)]; exact lv_sub hl [2, 1, 0] rfl)
  exact hL4 _ 0 L PD SK lr n sz en _ _ _ (Nat.lt_succ_self _) (by omega) (hFK) (LF_0 hS) (hM) (lv_sub hl [2, 1, 0] rfl)
set_option maxHeartbeats 400000 in
set_option maxRecDepth 100000 in
theorem c_Fl_countShutPoints (l : Launch) (D : va_G) (cT : Nat → ClassId) (X : CX) (I : Nat → Int32) (a : Nat → Nat → Int32)  (L PD SK : Nat → Int32) (lr n sz : Nat) (en : Int32) (S : Nat → Bool) (hFK : FK L PD lr) (hS : ∀ k, k < 3375 → bl L k = S k) : CMi l D cT X y_Fl_countShutPoints b_Fl_countShutPoints 3 (some .int) 4 91 [.ref (X.1 5)] (upd (upd (upd (upd I 51 (nI lr)) 54 (nI n)) 55 (nI sz)) 56 en) (va_up (va_up (va_up a 6 L) 7 PD) 8 SK) (fun r u => ∃ L' P' S' lr' n' sz' en', u = (upd (upd (upd (upd I 51 (nI lr')) 54 (nI n')) 55 (nI sz')) 56 en', va_up (va_up (va_up a 6 L') 7 P') 8 S') ∧ FK L' P' lr' ∧ r = nI (smx (fun k => plS S k && shS S k) (szS S) 3375)) := by
  refine co_enti (own := R_Fl) (by decide) rfl (Nat.le_of_ble_eq_true rfl) ?_
  intro p e s m args below meth c Q hC hK hM hret ls hl
  have hx := hC.1
  have hb := hC.2.1
  replace hl : lv_has ls 3 [(0, .ref (X.1 5))] := hl
  refine lv_iconst (v := 0) hx hb d_Fl_countShutPoints_0 (by decide) ?_
  refine lv_istore_n (lv' := [(1, .int 0), (0, .ref (X.1 5))]) hx hb d_Fl_countShutPoints_1 rfl hl (by decide) rfl (fun ls hl => ?_)
  refine lv_iconst (v := 0) hx hb d_Fl_countShutPoints_2 (by decide) ?_
  refine lv_istore_n (lv' := [(2, .int 0), (1, .int 0), (0, .ref (X.1 5))]) hx hb d_Fl_countShutPoints_3 rfl hl (by decide) rfl (fun ls hl => ?_)
  have hL4 : ∀ (nn : Nat) (c9 : Nat) (L2 : Nat → Int32) (P2 : Nat → Int32) (S2 : Nat → Int32) (lr2 : Nat) (n2 : Nat) (sz2 : Nat) (en2 : Int32) (H : Heap) (locs : List Loc) (ls : Array Slot), 3375 - c9 < nn → (c9 ≤ 3375) → (FK L2 P2 lr2) → (LF S c9 L2) → CO D cT (CA X) X (upd (upd (upd (upd I 51 (nI lr2)) 54 (nI n2)) 55 (nI sz2)) 56 en2) (va_up (va_up (va_up a 6 L2) 7 P2) 8 S2) s.heap H locs → lv_has ls 3 [(0, .ref (X.1 5)), (1, .int (nI (smx (fun k => plS S k && shS S k) (szS S) c9))), (2, .int (nI (cn (plS S) c9)))] → W p l e (rmOf 4 91) s m args below meth c H locs 0 0 Q (F0 m 4 ls []) := by
    intro nn
    induction nn with
    | zero =>
      intro c9 L2 P2 S2 lr2 n2 sz2 en2 H locs ls hmeas4 hc hF2 hLF hM hl
      exact absurd hmeas4 (Nat.not_lt_zero _)
    | succ nn ih4 =>
      intro c9 L2 P2 S2 lr2 n2 sz2 en2 H locs ls hmeas4 hc hF2 hLF hM hl
      refine lv_iload_n hx hb d_Fl_countShutPoints_4 rfl (lv_at hl 2 rfl) ?_
      refine lv_sipush (v := 3375) hx hb d_Fl_countShutPoints_5 (by decide) ?_
      refine nc_ge hx hb (cn (plS S) c9) 3375 (by have := cn_le (plS S) c9; omega) (by have := cn_le (plS S) c9; omega) d_Fl_countShutPoints_8 (tgt := 42) (by decide) (fun h1 => ?_) (fun h1 => ?_)
      · skip
        refine lv_iload_n hx hb d_Fl_countShutPoints_42 rfl (lv_at hl 1 rfl) ?_
        refine hret _ _ _ _ _ _ _ d_Fl_countShutPoints_43 hM ?_
        obtain rfl : c9 = 3375 := by have := cn_le (plS S) c9; omega
        refine ⟨_, _, _, _, _, _, _, rfl, hF2, ?_⟩
        have hst9 : ∀ j, 3375 ≤ j → j < 3375 → plS S j = false := fun j h1 h2 => by omega
        rw [(gm_fin (p := (fun k => plS S k && shS S k)) (g := szS S) (by omega) (fun j a1 a2 => by show (plS S j && shS S j) = false; rw [hst9 j a1 a2]; rfl)).2]
      · skip
        refine lv_aload_n hx hb d_Fl_countShutPoints_11 rfl (lv_at hl 0 rfl) ?_
        refine co_calli (np := 0) hC hK hM (k := 5) (by omega) (cE_5) rfl (c_Fl_takePiece l D cT X I a L2 P2 S2 lr2 n2 sz2 en2 hF2) rfl ⟨wl_Fl_49, wi_Fl_takePiece, ws_Fl_takePiece, wc_Fl_takePiece, wn_Fl⟩ ⟨by decide, by decide, by decide +kernel⟩ ⟨Nat.le_of_ble_eq_true rfl, Nat.le_of_ble_eq_true rfl⟩ hl.1 rfl (rest := []) rfl (Nat.le_of_ble_eq_true rfl) ⟨Nat.zero_le _, Nat.zero_le _⟩ d_Fl_countShutPoints_12 (fun rr2 I2 a2 H locs hp2 hM => ?_)
        obtain ⟨L2, P2, S2, lr2, n2, sz2, en2, e2, hF2, hT2⟩ := hp2
        cases e2
        have hZ2 := tk_or hT2
        refine lv_if_eq (tgt := 42) hx hb d_Fl_countShutPoints_15 (by decide) (fun h3 => ?_) (fun h3 => ?_)
        · skip
          refine lv_iload_n hx hb d_Fl_countShutPoints_42 rfl (lv_at hl 1 rfl) ?_
          refine hret _ _ _ _ _ _ _ d_Fl_countShutPoints_43 hM ?_
          refine ⟨_, _, _, _, _, _, _, rfl, hF2, ?_⟩
          have hst9 := LF_stop hLF (hZ2.1 h3)
          rw [(gm_fin (p := (fun k => plS S k && shS S k)) (g := szS S) (by omega) (fun j a1 a2 => by show (plS S j && shS S j) = false; rw [hst9 j a1 a2]; rfl)).2]
        · skip
          refine lv_iload_n hx hb d_Fl_countShutPoints_18 rfl (lv_at hl 1 rfl) ?_
          refine lv_aload_n hx hb d_Fl_countShutPoints_19 rfl (lv_at hl 0 rfl) ?_
          refine rd_get hC in_Fl hK hM.1 5 (cw_he (by omega) (cE_5)) rfl 6 (by decide) wf_Fl_31 rfl (v := .int en2) (congrArg (fun z : Int32 => some (Value.int z)) (pk_us)) d_Fl_countShutPoints_20 ?_
          refine lv_if_eq (tgt := 30) hx hb d_Fl_countShutPoints_23 (by decide) (fun h4 => ?_) (fun h4 => ?_)
          · skip
            refine lv_aload_n hx hb d_Fl_countShutPoints_30 rfl (lv_at hl 0 rfl) ?_
            refine rd_get hC in_Fl hK hM.1 5 (cw_he (by omega) (cE_5)) rfl 5 (by decide) wf_Fl_28 rfl (v := .int (nI sz2)) (congrArg (fun z : Int32 => some (Value.int z)) ((pk_un (by omega)).trans (pk_us))) d_Fl_countShutPoints_31 ?_
            refine lv_iadd hx hb d_Fl_countShutPoints_34 ?_
            refine topi_eq (nI_add (smx (fun k => plS S k && shS S k) (szS S) c9) sz2) ?_
            refine lv_istore_n (lv' := [(1, .int (nI ((smx (fun k => plS S k && shS S k) (szS S) c9) + sz2))), (0, .ref (X.1 5)), (2, .int (nI (cn (plS S) c9)))]) hx hb d_Fl_countShutPoints_35 rfl hl (by decide) rfl (fun ls hl => ?_)
            refine lv_iinc (v := nI ((cn (plS S) c9) + 1)) (lv' := [(2, .int (nI ((cn (plS S) c9) + 1))), (1, .int (nI ((smx (fun k => plS S k && shS S k) (szS S) c9) + sz2))), (0, .ref (X.1 5))]) hx hb d_Fl_countShutPoints_36 hl (k := 2) rfl (nI_add (cn (plS S) c9) 1) (by decide) rfl (fun ls hl => ?_)
            refine lv_goto (tgt := 4) hx hb d_Fl_countShutPoints_39 (by decide) ?_
            obtain ⟨f9, g1, g2, g3, g4, g5, g6, g7, g8⟩ := LF_step hc hLF (hZ2.2 h3)
            exact ih4 (f9 + 1) L2 P2 S2 lr2 n2 sz2 en2 _ _ _ (by omega) (by omega) (hF2) (g3) (hM) (by rw [cn_nx g1 g5 g4, (gm_nx (p := (fun k => plS S k && shS S k)) (g := szS S) g1 (fun j a1 a2 => by show (plS S j && shS S j) = false; rw [g5 j a1 a2]; rfl)).2, show (if (plS S f9 && shS S f9) = true then szS S f9 else 0) = sz2 by rw [g4, (show shS S f9 = true by rcases g7 with z9 | z9; (exact absurd (z9.1.symm.trans h4) (by decide)); (exact z9.2))]; exact g6.symm]; exact lv_sub hl [2, 1, 0] rfl)
          · skip
            refine lv_iconst (v := 0) hx hb d_Fl_countShutPoints_26 (by decide) ?_
            refine lv_goto (tgt := 34) hx hb d_Fl_countShutPoints_27 (by decide) ?_
            refine lv_iadd hx hb d_Fl_countShutPoints_34 ?_
            refine topi_eq (nI_add (smx (fun k => plS S k && shS S k) (szS S) c9) 0) ?_
            refine lv_istore_n (lv' := [(1, .int (nI ((smx (fun k => plS S k && shS S k) (szS S) c9) + 0))), (0, .ref (X.1 5)), (2, .int (nI (cn (plS S) c9)))]) hx hb d_Fl_countShutPoints_35 rfl hl (by decide) rfl (fun ls hl => ?_)
            refine lv_iinc (v := nI ((cn (plS S) c9) + 1)) (lv' := [(2, .int (nI ((cn (plS S) c9) + 1))), (1, .int (nI ((smx (fun k => plS S k && shS S k) (szS S) c9) + 0))), (0, .ref (X.1 5))]) hx hb d_Fl_countShutPoints_36 hl (k := 2) rfl (nI_add (cn (plS S) c9) 1) (by decide) rfl (fun ls hl => ?_)
            refine lv_goto (tgt := 4) hx hb d_Fl_countShutPoints_39 (by decide) ?_
            obtain ⟨f9, g1, g2, g3, g4, g5, g6, g7, g8⟩ := LF_step hc hLF (hZ2.2 h3)
            exact ih4 (f9 + 1) L2 P2 S2 lr2 n2 sz2 en2 _ _ _ (by omega) (by omega) (hF2) (g3) (hM) (by rw [cn_nx g1 g5 g4, (gm_nx (p := (fun k => plS S k && shS S k)) (g := szS S) g1 (fun j a1 a2 => by show (plS S j && shS S j) = false; rw [g5 j a1 a2]; rfl)).2, show (if (plS S f9 && shS S f9) = true then szS S f9 else 0) = 0 by rw [g4, (show shS S f9 = false by rcases g7 with z9 | z9; (exact z9.2); (exact absurd z9.1 h4))]; rfl]; exact lv_sub hl [2, 1, 0] rfl)
  exact hL4 _ 0 L PD SK lr n sz en _ _ _ (Nat.lt_succ_self _) (by omega) (hFK) (LF_0 hS) (hM) (lv_sub hl [2, 1, 0] rfl)
set_option maxHeartbeats 400000 in
set_option maxRecDepth 100000 in
theorem c_Fl_pieceOf (l : Launch) (D : va_G) (cT : Nat → ClassId) (X : CX) (I : Nat → Int32) (a : Nat → Nat → Int32) (x : Int) (y : Int) (zc : Int) (L PD SK : Nat → Int32) (lr n sz : Nat) (en : Int32) (S : Nat → Bool) (hFK : FK L PD lr) (hS : ∀ k, k < 3375 → bl L k = S k) (hx1 : -7 ≤ x) (hx2 : x ≤ 7) (hy1 : -7 ≤ y) (hy2 : y ≤ 7) (hz1 : -7 ≤ zc) (hz2 : zc ≤ 7) : CMi l D cT X y_Fl_pieceOf b_Fl_pieceOf 5 (some .int) 4 91 [.ref (X.1 5), .int (iI x), .int (iI y), .int (iI zc)] (upd (upd (upd (upd I 51 (nI lr)) 54 (nI n)) 55 (nI sz)) 56 en) (va_up (va_up (va_up a 6 L) 7 PD) 8 SK) (fun r u => ∃ L' P' S' lr' n' sz' en', u = (upd (upd (upd (upd I 51 (nI lr')) 54 (nI n')) 55 (nI sz')) 56 en', va_up (va_up (va_up a 6 L') 7 P') 8 S') ∧ FK L' P' lr' ∧ (if S (nix x y zc) = true then ∃ f, f < 3375 ∧ plS S f = true ∧ cS S f (nix x y zc) ∧ r = nI (cn (plS S) f) else r = -4)) := by
  refine co_enti (own := R_Fl) (by decide) rfl (Nat.le_of_ble_eq_true rfl) ?_
  intro p e s m args below meth c Q hC hK hM hret ls hl
  have hx := hC.1
  have hb := hC.2.1
  replace hl : lv_has ls 5 [(0, .ref (X.1 5)), (1, .int (iI x)), (2, .int (iI y)), (3, .int (iI zc))] := hl
  have hk0 : (nix x y zc) < 3375 := by unfold nix; omega
  refine lv_aload_n hx hb d_Fl_pieceOf_0 rfl (lv_at hl 0 rfl) ?_
  refine lv_iload_n hx hb d_Fl_pieceOf_1 rfl (lv_at hl 1 rfl) ?_
  refine lv_iload_n hx hb d_Fl_pieceOf_2 rfl (lv_at hl 2 rfl) ?_
  refine lv_iload_n hx hb d_Fl_pieceOf_3 rfl (lv_at hl 3 rfl) ?_
  refine rd_call (np := 3) hC hK hM.1 (cw_he (by omega) (cE_5)) rfl (c_Fl_isLeft l D cT X I a x y zc L PD SK lr n sz en (by omega) (by omega) (by omega) (by omega) (by omega) (by omega)) rfl ⟨wl_Fl_58, wi_Fl_isLeft, ws_Fl_isLeft, wc_Fl_isLeft, wn_Fl⟩ ⟨by decide, by decide, by decide +kernel⟩ ⟨Nat.le_of_ble_eq_true rfl, Nat.le_of_ble_eq_true rfl⟩ hl.1 rfl (rest := []) rfl (Nat.le_of_ble_eq_true rfl) ⟨Nat.zero_le _, Nat.zero_le _⟩ d_Fl_pieceOf_4 (fun rr hrr => ?_)
  subst hrr
  refine bz_ne (tgt := 13) hx hb d_Fl_pieceOf_7 (by decide) (fun h1 => ?_) (fun h1 => ?_)
  · skip
    refine lv_iconst (v := 0) hx hb d_Fl_pieceOf_13 (by decide) ?_
    refine lv_istore (lv' := [(4, .int 0), (0, .ref (X.1 5)), (1, .int (iI x)), (2, .int (iI y)), (3, .int (iI zc))]) hx hb d_Fl_pieceOf_14 hl (by decide) rfl (fun ls hl => ?_)
    have hL16 : ∀ (nn : Nat) (c9 : Nat) (L2 : Nat → Int32) (P2 : Nat → Int32) (S2 : Nat → Int32) (lr2 : Nat) (n2 : Nat) (sz2 : Nat) (en2 : Int32) (H : Heap) (locs : List Loc) (ls : Array Slot), 3375 - c9 < nn → (c9 ≤ 3375) → (FK L2 P2 lr2) → (LF S c9 L2) → (bl L2 (nix x y zc) = true) → CO D cT (CA X) X (upd (upd (upd (upd I 51 (nI lr2)) 54 (nI n2)) 55 (nI sz2)) 56 en2) (va_up (va_up (va_up a 6 L2) 7 P2) 8 S2) s.heap H locs → lv_has ls 5 [(0, .ref (X.1 5)), (1, .int (iI x)), (2, .int (iI y)), (3, .int (iI zc)), (4, .int (nI (cn (plS S) c9)))] → W p l e (rmOf 4 91) s m args below meth c H locs 0 0 Q (F0 m 16 ls []) := by
      intro nn
      induction nn with
      | zero =>
        intro c9 L2 P2 S2 lr2 n2 sz2 en2 H locs ls hmeas16 hc hF2 hLF hleft hM hl
        exact absurd hmeas16 (Nat.not_lt_zero _)
      | succ nn ih16 =>
        intro c9 L2 P2 S2 lr2 n2 sz2 en2 H locs ls hmeas16 hc hF2 hLF hleft hM hl
        refine lv_iload hx hb d_Fl_pieceOf_16 (lv_at hl 4 rfl) ?_
        refine lv_sipush (v := 3375) hx hb d_Fl_pieceOf_18 (by decide) ?_
        refine nc_ge hx hb (cn (plS S) c9) 3375 (by have := cn_le (plS S) c9; omega) (by have := cn_le (plS S) c9; omega) d_Fl_pieceOf_21 (tgt := 47) (by decide) (fun h2 => ?_) (fun h2 => ?_)
        · skip
          refine lv_iload hx hb d_Fl_pieceOf_47 (lv_at hl 4 rfl) ?_
          refine hret _ _ _ _ _ _ _ d_Fl_pieceOf_49 hM ?_
          exfalso
          obtain rfl : c9 = 3375 := by have := cn_le (plS S) c9; omega
          have z9 := (LF_iff hLF hk0).mp hleft
          exact z9.2 _ hk0 z9.1 clo_0
        · skip
          refine lv_aload_n hx hb d_Fl_pieceOf_24 rfl (lv_at hl 0 rfl) ?_
          refine co_calli (np := 0) hC hK hM (k := 5) (by omega) (cE_5) rfl (c_Fl_takePiece l D cT X I a L2 P2 S2 lr2 n2 sz2 en2 hF2) rfl ⟨wl_Fl_49, wi_Fl_takePiece, ws_Fl_takePiece, wc_Fl_takePiece, wn_Fl⟩ ⟨by decide, by decide, by decide +kernel⟩ ⟨Nat.le_of_ble_eq_true rfl, Nat.le_of_ble_eq_true rfl⟩ hl.1 rfl (rest := []) rfl (Nat.le_of_ble_eq_true rfl) ⟨Nat.zero_le _, Nat.zero_le _⟩ d_Fl_pieceOf_25 (fun rr3 I3 a3 H locs hp3 hM => ?_)
          obtain ⟨L3, P3, S3, lr3, n3, sz3, en3, e3, hF3, hT3⟩ := hp3
          cases e3
          have hZ3 := tk_or hT3
          refine lv_if_eq (tgt := 47) hx hb d_Fl_pieceOf_28 (by decide) (fun h4 => ?_) (fun h4 => ?_)
          · skip
            refine lv_iload hx hb d_Fl_pieceOf_47 (lv_at hl 4 rfl) ?_
            refine hret _ _ _ _ _ _ _ d_Fl_pieceOf_49 hM ?_
            exfalso
            have z9 := hZ3.1 h4 _ hk0
            rw [hleft] at z9
            cases z9
          · skip
            refine lv_aload_n hx hb d_Fl_pieceOf_31 rfl (lv_at hl 0 rfl) ?_
            refine lv_iload_n hx hb d_Fl_pieceOf_32 rfl (lv_at hl 1 rfl) ?_
            refine lv_iload_n hx hb d_Fl_pieceOf_33 rfl (lv_at hl 2 rfl) ?_
            refine lv_iload_n hx hb d_Fl_pieceOf_34 rfl (lv_at hl 3 rfl) ?_
            refine rd_call (np := 3) hC hK hM.1 (cw_he (by omega) (cE_5)) rfl (c_Fl_isLeft l D cT X I a x y zc L3 P3 S3 lr3 n3 sz3 en3 (by omega) (by omega) (by omega) (by omega) (by omega) (by omega)) rfl ⟨wl_Fl_58, wi_Fl_isLeft, ws_Fl_isLeft, wc_Fl_isLeft, wn_Fl⟩ ⟨by decide, by decide, by decide +kernel⟩ ⟨Nat.le_of_ble_eq_true rfl, Nat.le_of_ble_eq_true rfl⟩ hl.1 rfl (rest := []) rfl (Nat.le_of_ble_eq_true rfl) ⟨Nat.zero_le _, Nat.zero_le _⟩ d_Fl_pieceOf_35 (fun rr hrr => ?_)
            subst hrr
            refine bz_eq (tgt := 47) hx hb d_Fl_pieceOf_38 (by decide) (fun h5 => ?_) (fun h5 => ?_)
            · skip
              refine lv_iload hx hb d_Fl_pieceOf_47 (lv_at hl 4 rfl) ?_
              refine hret _ _ _ _ _ _ _ d_Fl_pieceOf_49 hM ?_
              obtain ⟨f9, g1, g2, g3, g4, g5, g6, g7, g8⟩ := LF_step hc hLF (hZ3.2 h4)
              refine ⟨_, _, _, _, _, _, _, rfl, hF3, ?_⟩
              rw [if_pos ((LF_iff hLF hk0).mp hleft).1]
              refine ⟨f9, g2, g4, Classical.byContradiction fun z9 => (by assumption : ¬ bl L3 (nix x y zc) = true) ((g8 _ hk0).mpr ⟨hleft, z9⟩), ?_⟩
              have e9 := cn_skip (p := plS S) (c := c9) (f9 - c9) (fun j h1 h2 => g5 j h1 (by omega))
              rw [show c9 + (f9 - c9) = f9 by omega] at e9
              rw [e9]
            · skip
              refine lv_iinc (v := nI ((cn (plS S) c9) + 1)) (lv' := [(4, .int (nI ((cn (plS S) c9) + 1))), (0, .ref (X.1 5)), (1, .int (iI x)), (2, .int (iI y)), (3, .int (iI zc))]) hx hb d_Fl_pieceOf_41 hl (k := 4) rfl (nI_add (cn (plS S) c9) 1) (by decide) rfl (fun ls hl => ?_)
              refine lv_goto (tgt := 16) hx hb d_Fl_pieceOf_44 (by decide) ?_
              obtain ⟨f9, g1, g2, g3, g4, g5, g6, g7, g8⟩ := LF_step hc hLF (hZ3.2 h4)
              exact ih16 (f9 + 1) L3 P3 S3 lr3 n3 sz3 en3 _ _ _ (by omega) (by omega) (hF3) (g3) (by assumption) (hM) (by rw [cn_nx g1 g5 g4]; exact lv_sub hl [1, 2, 3, 4, 0] rfl)
    exact hL16 _ 0 L PD SK lr n sz en _ _ _ (Nat.lt_succ_self _) (by omega) (hFK) (LF_0 hS) (by assumption) (hM) (lv_sub hl [1, 2, 3, 4, 0] rfl)
  · skip
    refine lv_bipush (v := (-4)) hx hb d_Fl_pieceOf_10 (by decide) ?_
    refine hret _ _ _ _ _ _ _ d_Fl_pieceOf_12 hM ?_
    refine ⟨_, _, _, _, _, _, _, rfl, hFK, ?_⟩
    rw [if_neg (fun z9 => (by assumption : ¬ bl L (nix x y zc) = true) (by rw [hS _ hk0]; exact z9))]
