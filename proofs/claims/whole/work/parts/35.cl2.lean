/-! the class: the tape, the sheets -/
def bsg (v : Int64) (i : Nat) : Int32 := (((v.toUInt64 >>> ((iI (56 - (↑(8 * i) : Int))).toInt64.toUInt64 &&& Int64.toUInt64 63)).toInt64).toInt32).toInt8.toInt32
theorem zr0_succ (f : Nat → Int32) (n : Nat) : upd (zr f 0 n) n 0 = zr f 0 (n + 1) := by
  have h := zr_succ f 0 n
  rwa [Nat.zero_add] at h
theorem nI_ofI {x : Int32} {z : Int} (h : x.toInt = z) (h0 : 0 ≤ z) : x = nI z.toNat := by
  rw [iI_of x, h, nI_iI, Int.toNat_of_nonneg h0]
def layC (lane v : Int32) : Int32 := if lane = 0 then v.toInt8.toInt32 else if lane = 1 then v.toInt16.toInt32 else v
set_option maxHeartbeats 400000 in
set_option maxRecDepth 100000 in
theorem c_Tp_append (l : Launch) (D : va_G) (cT : Nat → ClassId) (X : CX) (I : Nat → Int32) (a : Nat → Nat → Int32) (v : Int64) (n : Nat) (hn : I 11 = nI n) (h160 : n ≤ 160) : CMi l D cT X y_Tp_append b_Tp_append 4 (some .boolean) 0 0 [.ref (X.1 1), .long v] I a (fun r u => if 160 < n + 8 then r = 0 ∧ u = (I, a) else r = 1 ∧ u = (upd I 11 (nI (n + 8)), va_up a 2 (pt (a 2) (bsg v) n 8))) := by
  refine co_entz (own := R_Tp) (by decide) rfl (Nat.le_of_ble_eq_true rfl) ?_
  intro p e s m args below meth c Q hC hK hM hret ls hl
  have hx := hC.1
  have hb := hC.2.1
  replace hl : lv_has ls 4 [(0, .ref (X.1 1)), (1, .long v)] := hl
  refine lv_aload_n hx hb d_Tp_append_0 rfl (lv_at hl 0 rfl) ?_
  refine rd_get hC in_Tp hK hM.1 1 (cw_he (by omega) (cE_1)) rfl 1 (by decide) wf_Tp_13 rfl (v := .int (nI n)) (congrArg (fun z : Int32 => some (Value.int z)) (hn)) d_Tp_append_1 ?_
  refine zz_lt hx hb (↑n : Int) (by omega) (by omega) d_Tp_append_4 (tgt := 20) (by decide) (fun h1 => ?_) (fun h1 => ?_)
  · skip
    refine lv_iconst (v := 0) hx hb d_Tp_append_20 (by decide) ?_
    exact hret _ _ _ _ _ _ _ d_Tp_append_21 (by first | exact Or.inl rfl | exact Or.inr rfl | assumption) hM (by rw [if_pos (by omega)]; exact ⟨rfl, rfl⟩)
  · skip
    refine lv_aload_n hx hb d_Tp_append_7 rfl (lv_at hl 0 rfl) ?_
    refine rd_get hC in_Tp hK hM.1 1 (cw_he (by omega) (cE_1)) rfl 1 (by decide) wf_Tp_13 rfl (v := .int (nI n)) (congrArg (fun z : Int32 => some (Value.int z)) (hn)) d_Tp_append_8 ?_
    refine lv_bipush (v := 8) hx hb d_Tp_append_11 (by decide) ?_
    refine lv_iadd hx hb d_Tp_append_13 ?_
    refine topi_eq (nI_add n 8) ?_
    refine lv_sipush (v := 160) hx hb d_Tp_append_14 (by decide) ?_
    refine nc_le hx hb (n + 8) 160 (by omega) (by omega) d_Tp_append_17 (tgt := 22) (by decide) (fun h2 => ?_) (fun h2 => ?_)
    · skip
      refine lv_iconst (v := 0) hx hb d_Tp_append_22 (by decide) ?_
      refine lv_istore_n (lv' := [(3, .int 0), (0, .ref (X.1 1)), (1, .long v)]) hx hb d_Tp_append_23 rfl hl (by decide) rfl (fun ls hl => ?_)
      have hL24 : ∀ (nn : Nat) (i : Nat) (H : Heap) (locs : List Loc) (ls : Array Slot), 8 - i < nn → (i ≤ 8) → CO D cT (CA X) X I (va_up a 2 (pt (a 2) (bsg v) n i)) s.heap H locs → lv_has ls 4 [(0, .ref (X.1 1)), (1, .long v), (3, .int (nI i))] → W p l e (rmOf 0 0) s m args below meth c H locs 0 0 Q (F0 m 24 ls []) := by
        intro nn
        induction nn with
        | zero =>
          intro i H locs ls hmeas24 hi hM hl
          exact absurd hmeas24 (Nat.not_lt_zero _)
        | succ nn ih24 =>
          intro i H locs ls hmeas24 hi hM hl
          refine lv_iload_n hx hb d_Tp_append_24 rfl (lv_at hl 2 rfl) ?_
          refine lv_bipush (v := 8) hx hb d_Tp_append_25 (by decide) ?_
          refine nc_ge hx hb i 8 (by omega) (by omega) d_Tp_append_27 (tgt := 58) (by decide) (fun h3 => ?_) (fun h3 => ?_)
          · skip
            refine lv_aload_n hx hb d_Tp_append_58 rfl (lv_at hl 0 rfl) ?_
            refine lv_dup hx hb d_Tp_append_59 rfl ?_
            refine rd_get hC in_Tp hK hM.1 1 (cw_he (by omega) (cE_1)) rfl 1 (by decide) wf_Tp_13 rfl (v := .int (nI n)) (congrArg (fun z : Int32 => some (Value.int z)) (hn)) d_Tp_append_60 ?_
            refine lv_bipush (v := 8) hx hb d_Tp_append_63 (by decide) ?_
            refine lv_iadd hx hb d_Tp_append_65 ?_
            refine topi_eq (nI_add n 8) ?_
            refine co_put hC in_Tp t_Tp t_Tp_ok n_Tp hK hM 1 (by omega) (cE_1) rfl 1 (by decide) wf_Tp_13 rfl rfl (ty := .int) (by decide +kernel) (x := nI (n + 8)) rfl rfl (Nat.le_of_ble_eq_true rfl) (by decide) (rfl) d_Tp_append_66 (fun H locs hM => ?_)
            replace hM : CO D cT (CA X) X (upd I 11 (nI (n + 8))) (va_up a 2 (pt (a 2) (bsg v) n i)) s.heap H locs := hM
            refine lv_iconst (v := 1) hx hb d_Tp_append_69 (by decide) ?_
            exact hret _ _ _ _ _ _ _ d_Tp_append_70 (by first | exact Or.inl rfl | exact Or.inr rfl | assumption) hM (by rw [if_neg (by omega), show i = 8 by omega]; exact ⟨rfl, rfl⟩)
          · skip
            refine lv_aload_n hx hb d_Tp_append_30 rfl (lv_at hl 0 rfl) ?_
            refine rd_get hC in_Tp hK hM.1 1 (cw_he (by omega) (cE_1)) rfl 0 (by decide) wf_Tp_9 rfl (v := .ref (X.1 2)) (rfl) d_Tp_append_31 ?_
            refine lv_aload_n hx hb d_Tp_append_34 rfl (lv_at hl 0 rfl) ?_
            refine rd_get hC in_Tp hK hM.1 1 (cw_he (by omega) (cE_1)) rfl 1 (by decide) wf_Tp_13 rfl (v := .int (nI n)) (congrArg (fun z : Int32 => some (Value.int z)) (hn)) d_Tp_append_35 ?_
            refine lv_iload_n hx hb d_Tp_append_38 rfl (lv_at hl 2 rfl) ?_
            refine lv_iadd hx hb d_Tp_append_39 ?_
            refine topi_eq (nI_add n i) ?_
            refine lv_lload_n hx hb d_Tp_append_40 rfl (lv_at hl 1 rfl) ?_
            refine lv_bipush (v := 56) hx hb d_Tp_append_41 (by decide) ?_
            refine lv_bipush (v := 8) hx hb d_Tp_append_43 (by decide) ?_
            refine lv_iload_n hx hb d_Tp_append_45 rfl (lv_at hl 2 rfl) ?_
            refine lv_imul hx hb d_Tp_append_46 ?_
            refine topi_eq (pk_mul 8 i) ?_
            refine lv_isub hx hb d_Tp_append_47 ?_
            refine topi_eq (iI_sub 56 (↑(8 * i) : Int)) ?_
            refine lv_lushr hx hb d_Tp_append_48 rfl ?_
            refine lv_l2i hx hb d_Tp_append_49 rfl ?_
            refine lv_i2b hx hb d_Tp_append_50 rfl ?_
            refine co_bast hC hK hM 2 (by omega) (fun _ => rfl) (n + i) (i := nI (n + i)) (x := (((v.toUInt64 >>> ((iI (56 - (↑(8 * i) : Int))).toInt64.toUInt64 &&& Int64.toUInt64 63)).toInt64).toInt32).toInt8.toInt32) (rfl) (by omega) (by decide) (pk_vb _) d_Tp_append_51 (fun H locs hM => ?_)
            replace hM : CO D cT (CA X) X I (va_up (va_up a 2 (pt (a 2) (bsg v) n i)) 2 (upd (pt (a 2) (bsg v) n i) (n + i) ((((v.toUInt64 >>> ((iI (56 - (↑(8 * i) : Int))).toInt64.toUInt64 &&& Int64.toUInt64 63)).toInt64).toInt32).toInt8.toInt32))) s.heap H locs := hM
            rw [bx_uu] at hM
            refine lv_iinc (v := nI (i + 1)) (lv' := [(3, .int (nI (i + 1))), (0, .ref (X.1 1)), (1, .long v)]) hx hb d_Tp_append_52 hl (k := 2) rfl (nI_add i 1) (by decide) rfl (fun ls hl => ?_)
            refine lv_goto (tgt := 24) hx hb d_Tp_append_55 (by decide) ?_
            exact ih24 (i + 1) _ _ _ (by omega) (by omega) (by rw [← pt_succ (a 2) (bsg v) n i rfl]; exact hM) (lv_sub hl [1, 2, 0] rfl)
      exact hL24 _ 0 _ _ _ (Nat.lt_succ_self _) (by omega) (by rw [pt_0, up_same2 (f := a) (k := 2) (x := a 2) rfl]; exact hM) (lv_sub hl [1, 2, 0] rfl)
    · skip
      refine lv_iconst (v := 0) hx hb d_Tp_append_20 (by decide) ?_
      exact hret _ _ _ _ _ _ _ d_Tp_append_21 (by first | exact Or.inl rfl | exact Or.inr rfl | assumption) hM (by rw [if_pos (by omega)]; exact ⟨rfl, rfl⟩)
set_option maxHeartbeats 400000 in
set_option maxRecDepth 100000 in
theorem c_Tp_shorten (l : Launch) (D : va_G) (cT : Nat → ClassId) (X : CX) (I : Nat → Int32) (a : Nat → Nat → Int32) (n : Int32)   : CMi l D cT X y_Tp_shorten b_Tp_shorten 2 (some .boolean) 0 0 [.ref (X.1 1), .int n] I a (fun r u => if 0 ≤ n.toInt ∧ n.toInt ≤ (I 11).toInt then r = 1 ∧ u = (upd I 11 n, a) else r = 0 ∧ u = (I, a)) := by
  refine co_entz (own := R_Tp) (by decide) rfl (Nat.le_of_ble_eq_true rfl) ?_
  intro p e s m args below meth c Q hC hK hM hret ls hl
  have hx := hC.1
  have hb := hC.2.1
  replace hl : lv_has ls 2 [(0, .ref (X.1 1)), (1, .int n)] := hl
  refine lv_iload_n hx hb d_Tp_shorten_0 rfl (lv_at hl 1 rfl) ?_
  refine yz_lt hx hb n.toInt (rfl) d_Tp_shorten_1 (tgt := 12) (by decide) (fun h1 => ?_) (fun h1 => ?_)
  · skip
    refine lv_iconst (v := 0) hx hb d_Tp_shorten_12 (by decide) ?_
    exact hret _ _ _ _ _ _ _ d_Tp_shorten_13 (by first | exact Or.inl rfl | exact Or.inr rfl | assumption) hM (by rw [if_neg (by omega)]; exact ⟨rfl, rfl⟩)
  · skip
    refine lv_iload_n hx hb d_Tp_shorten_4 rfl (lv_at hl 1 rfl) ?_
    refine lv_aload_n hx hb d_Tp_shorten_5 rfl (lv_at hl 0 rfl) ?_
    refine rd_get hC in_Tp hK hM.1 1 (cw_he (by omega) (cE_1)) rfl 1 (by decide) wf_Tp_13 rfl (v := .int (I 11)) (rfl) d_Tp_shorten_6 ?_
    refine yc_le hx hb n.toInt ((I 11).toInt) (rfl) (rfl) d_Tp_shorten_9 (tgt := 14) (by decide) (fun h2 => ?_) (fun h2 => ?_)
    · skip
      refine lv_aload_n hx hb d_Tp_shorten_14 rfl (lv_at hl 0 rfl) ?_
      refine lv_iload_n hx hb d_Tp_shorten_15 rfl (lv_at hl 1 rfl) ?_
      refine co_put hC in_Tp t_Tp t_Tp_ok n_Tp hK hM 1 (by omega) (cE_1) rfl 1 (by decide) wf_Tp_13 rfl rfl (ty := .int) (by decide +kernel) (x := n) rfl rfl (Nat.le_of_ble_eq_true rfl) (by decide) (rfl) d_Tp_shorten_16 (fun H locs hM => ?_)
      replace hM : CO D cT (CA X) X (upd I 11 n) a s.heap H locs := hM
      refine lv_iconst (v := 1) hx hb d_Tp_shorten_19 (by decide) ?_
      exact hret _ _ _ _ _ _ _ d_Tp_shorten_20 (by first | exact Or.inl rfl | exact Or.inr rfl | assumption) hM (by rw [if_pos (by omega)]; exact ⟨rfl, rfl⟩)
    · skip
      refine lv_iconst (v := 0) hx hb d_Tp_shorten_12 (by decide) ?_
      exact hret _ _ _ _ _ _ _ d_Tp_shorten_13 (by first | exact Or.inl rfl | exact Or.inr rfl | assumption) hM (by rw [if_neg (by omega)]; exact ⟨rfl, rfl⟩)
set_option maxHeartbeats 400000 in
set_option maxRecDepth 100000 in
theorem c_Tp_byteAt (l : Launch) (D : va_G) (cT : Nat → ClassId) (X : CX) (I : Nat → Int32) (a : Nat → Nat → Int32) (q : Nat) (n : Nat) (hn : I 11 = nI n) (h160 : n ≤ 160) (hq : q ≤ 400) : RDi l D cT (cw cT X I a) y_Tp_byteAt b_Tp_byteAt 2 (some .int) 0 0 [.ref (X.1 1), .int (nI q)] (fun r => r = if q < n then a 2 q &&& 255 else -1) := by
  refine rd_enti (own := R_Tp) (by decide) rfl (Nat.le_of_ble_eq_true rfl) ?_
  intro p e s m args below meth c Q hC hK hP hret ls hl
  have hx := hC.1
  have hb := hC.2.1
  replace hl : lv_has ls 2 [(0, .ref (X.1 1)), (1, .int (nI q))] := hl
  refine lv_iload_n hx hb d_Tp_byteAt_0 rfl (lv_at hl 1 rfl) ?_
  refine zz_lt hx hb (↑q : Int) (by omega) (by omega) d_Tp_byteAt_1 (tgt := 32) (by decide) (fun h1 => ?_) (fun h1 => ?_)
  · skip
    refine lv_iconst (v := (-1)) hx hb d_Tp_byteAt_32 (by decide) ?_
    exact hret _ _ _ d_Tp_byteAt_33 (by rw [if_neg (by omega)])
  · skip
    refine lv_iload_n hx hb d_Tp_byteAt_4 rfl (lv_at hl 1 rfl) ?_
    refine lv_aload_n hx hb d_Tp_byteAt_5 rfl (lv_at hl 0 rfl) ?_
    refine rd_get hC in_Tp hK hP 1 (cw_he (by omega) (cE_1)) rfl 1 (by decide) wf_Tp_13 rfl (v := .int (nI n)) (congrArg (fun z : Int32 => some (Value.int z)) (hn)) d_Tp_byteAt_6 ?_
    refine nc_ge hx hb q n (by omega) (by omega) d_Tp_byteAt_9 (tgt := 32) (by decide) (fun h2 => ?_) (fun h2 => ?_)
    · skip
      refine lv_iconst (v := (-1)) hx hb d_Tp_byteAt_32 (by decide) ?_
      exact hret _ _ _ d_Tp_byteAt_33 (by rw [if_neg (by omega)])
    · skip
      refine lv_iload_n hx hb d_Tp_byteAt_12 rfl (lv_at hl 1 rfl) ?_
      refine lv_sipush (v := 160) hx hb d_Tp_byteAt_13 (by decide) ?_
      refine nc_ge hx hb q 160 (by omega) (by omega) d_Tp_byteAt_16 (tgt := 32) (by decide) (fun h3 => ?_) (fun h3 => ?_)
      · skip
        refine lv_iconst (v := (-1)) hx hb d_Tp_byteAt_32 (by decide) ?_
        exact hret _ _ _ d_Tp_byteAt_33 (by rw [if_neg (by omega)])
      · skip
        refine lv_aload_n hx hb d_Tp_byteAt_19 rfl (lv_at hl 0 rfl) ?_
        refine rd_get hC in_Tp hK hP 1 (cw_he (by omega) (cE_1)) rfl 0 (by decide) wf_Tp_9 rfl (v := .ref (X.1 2)) (rfl) d_Tp_byteAt_20 ?_
        refine lv_iload_n hx hb d_Tp_byteAt_23 rfl (lv_at hl 1 rfl) ?_
        refine rd_bald hC hK hP 2 (cw_he (by omega) (cE_2)) q (i := nI q) (rfl) (by omega) (by decide) (v := (a 2) q) (rfl) d_Tp_byteAt_24 ?_
        refine lv_sipush (v := 255) hx hb d_Tp_byteAt_25 (by decide) ?_
        refine lv_iand hx hb d_Tp_byteAt_28 ?_
        refine lv_goto (tgt := 33) hx hb d_Tp_byteAt_29 (by decide) ?_
        exact hret _ _ _ d_Tp_byteAt_33 (by rw [if_pos (by omega)])
set_option maxHeartbeats 400000 in
set_option maxRecDepth 100000 in
theorem c_Sh_isNothing (l : Launch) (D : va_G) (cT : Nat → ClassId) (X : CX) (I : Nat → Int32) (a : Nat → Nat → Int32) (j : Nat)  (hj : j < 4) : RDi l D cT (cw cT X I a) y_Sh_isNothing b_Sh_isNothing 1 (some .boolean) 0 0 [.ref (X.1 (10 + 2 * j))] (fun r => r = bI (I (10 * (10 + 2 * j) + 1) = -1)) := by
  refine rd_entz (own := R_Sh) (by decide) rfl (Nat.le_of_ble_eq_true rfl) ?_
  intro p e s m args below meth c Q hC hK hP hret ls hl
  have hx := hC.1
  have hb := hC.2.1
  replace hl : lv_has ls 1 [(0, .ref (X.1 (10 + 2 * j)))] := hl
  refine lv_aload_n hx hb d_Sh_isNothing_0 rfl (lv_at hl 0 rfl) ?_
  refine rd_get hC in_Sh hK hP (10 + 2 * j) (cw_he (by omega) (cE_S (by omega))) rfl 1 (by decide) wf_Sh_15 rfl (v := .int (I (10 * (10 + 2 * j) + 1))) (rfl) d_Sh_isNothing_1 ?_
  refine lv_iconst (v := (-1)) hx hb d_Sh_isNothing_4 (by decide) ?_
  refine lv_icmp_ne (tgt := 12) hx hb d_Sh_isNothing_5 (by decide) (fun h1 => ?_) (fun h1 => ?_)
  · skip
    refine lv_iconst (v := 0) hx hb d_Sh_isNothing_12 (by decide) ?_
    exact hret _ _ _ d_Sh_isNothing_13 (by first | exact Or.inl rfl | exact Or.inr rfl | assumption) ((bI_f (by assumption)).symm)
  · skip
    refine lv_iconst (v := 1) hx hb d_Sh_isNothing_8 (by decide) ?_
    refine lv_goto (tgt := 13) hx hb d_Sh_isNothing_9 (by decide) ?_
    exact hret _ _ _ d_Sh_isNothing_13 (by first | exact Or.inl rfl | exact Or.inr rfl | assumption) ((bI_t (by assumption)).symm)
set_option maxHeartbeats 400000 in
set_option maxRecDepth 100000 in
theorem c_Sh_renew (l : Launch) (D : va_G) (cT : Nat → ClassId) (X : CX) (I : Nat → Int32) (a : Nat → Nat → Int32) (j : Nat) (la : Int32) (sz : Int32)  (hj : j < 4) : CMv l D cT X y_Sh_renew b_Sh_renew 4 none 0 0 [.ref (X.1 (10 + 2 * j)), .int la, .int sz] I a (fun u => u = (upd (upd I (10 * (10 + 2 * j) + 1) la) (10 * (10 + 2 * j) + 2) sz, va_up a (10 + 2 * j + 1) (zr (a (10 + 2 * j + 1)) 0 64))) := by
  refine co_entv (own := R_Sh) (by decide) rfl (Nat.le_of_ble_eq_true rfl) ?_
  intro p e s m args below meth c Q hC hK hM hret ls hl
  have hx := hC.1
  have hb := hC.2.1
  replace hl : lv_has ls 4 [(0, .ref (X.1 (10 + 2 * j))), (1, .int la), (2, .int sz)] := hl
  refine lv_iconst (v := 0) hx hb d_Sh_renew_0 (by decide) ?_
  refine lv_istore_n (lv' := [(3, .int 0), (0, .ref (X.1 (10 + 2 * j))), (1, .int la), (2, .int sz)]) hx hb d_Sh_renew_1 rfl hl (by decide) rfl (fun ls hl => ?_)
  have hL2 : ∀ (nn : Nat) (i : Nat) (H : Heap) (locs : List Loc) (ls : Array Slot), 64 - i < nn → (i ≤ 64) → CO D cT (CA X) X I (va_up a (10 + 2 * j + 1) (zr (a (10 + 2 * j + 1)) 0 i)) s.heap H locs → lv_has ls 4 [(0, .ref (X.1 (10 + 2 * j))), (1, .int la), (2, .int sz), (3, .int (nI i))] → W p l e (rmOf 0 0) s m args below meth c H locs 0 0 Q (F0 m 2 ls []) := by
    intro nn
    induction nn with
    | zero =>
      intro i H locs ls hmeas2 hi hM hl
      exact absurd hmeas2 (Nat.not_lt_zero _)
    | succ nn ih2 =>
      intro i H locs ls hmeas2 hi hM hl
      refine lv_iload_n hx hb d_Sh_renew_2 rfl (lv_at hl 3 rfl) ?_
      refine lv_bipush (v := 64) hx hb d_Sh_renew_3 (by decide) ?_
      refine nc_ge hx hb i 64 (by omega) (by omega) d_Sh_renew_5 (tgt := 21) (by decide) (fun h1 => ?_) (fun h1 => ?_)
      · skip
        refine lv_aload_n hx hb d_Sh_renew_21 rfl (lv_at hl 0 rfl) ?_
        refine lv_iload_n hx hb d_Sh_renew_22 rfl (lv_at hl 1 rfl) ?_
        refine co_put hC in_Sh t_Sh t_Sh_ok n_Sh hK hM (10 + 2 * j) (by omega) (cE_S (by omega)) rfl 1 (by decide) wf_Sh_15 rfl rfl (ty := .int) (by decide +kernel) (x := la) rfl rfl (Nat.le_of_ble_eq_true rfl) (by decide) (cE_S1 (by omega)) d_Sh_renew_23 (fun H locs hM => ?_)
        replace hM : CO D cT (CA X) X (upd I (10 * (10 + 2 * j) + 1) la) (va_up a (10 + 2 * j + 1) (zr (a (10 + 2 * j + 1)) 0 i)) s.heap H locs := hM
        refine lv_aload_n hx hb d_Sh_renew_26 rfl (lv_at hl 0 rfl) ?_
        refine lv_iload_n hx hb d_Sh_renew_27 rfl (lv_at hl 2 rfl) ?_
        refine co_put hC in_Sh t_Sh t_Sh_ok n_Sh hK hM (10 + 2 * j) (by omega) (cE_S (by omega)) rfl 2 (by decide) wf_Sh_19 rfl rfl (ty := .int) (by decide +kernel) (x := sz) rfl rfl (Nat.le_of_ble_eq_true rfl) (by decide) (cE_S2 (by omega)) d_Sh_renew_28 (fun H locs hM => ?_)
        replace hM : CO D cT (CA X) X (upd (upd I (10 * (10 + 2 * j) + 1) la) (10 * (10 + 2 * j) + 2) sz) (va_up a (10 + 2 * j + 1) (zr (a (10 + 2 * j + 1)) 0 i)) s.heap H locs := hM
        exact hret _ _ _ _ _ _ d_Sh_renew_31 hM (by rw [show i = 64 by omega])
      · skip
        refine lv_aload_n hx hb d_Sh_renew_8 rfl (lv_at hl 0 rfl) ?_
        refine rd_get hC in_Sh hK hM.1 (10 + 2 * j) (cw_he (by omega) (cE_S (by omega))) rfl 0 (by decide) wf_Sh_9 rfl (v := .ref (X.1 (10 + 2 * j + 1))) (rfl) d_Sh_renew_9 ?_
        refine lv_iload_n hx hb d_Sh_renew_12 rfl (lv_at hl 3 rfl) ?_
        refine lv_iconst (v := 0) hx hb d_Sh_renew_13 (by decide) ?_
        refine co_iast hC hK hM (10 + 2 * j + 1) (by omega) (fun f => cE_Tu (by omega) f) i (i := nI i) (x := 0) (rfl) (by omega) (by decide) d_Sh_renew_14 (fun H locs hM => ?_)
        rw [va_up_self _ _ _] at hM
        rw [bx_uu] at hM
        refine lv_iinc (v := nI (i + 1)) (lv' := [(3, .int (nI (i + 1))), (0, .ref (X.1 (10 + 2 * j))), (1, .int la), (2, .int sz)]) hx hb d_Sh_renew_15 hl (k := 3) rfl (nI_add i 1) (by decide) rfl (fun ls hl => ?_)
        refine lv_goto (tgt := 2) hx hb d_Sh_renew_18 (by decide) ?_
        exact ih2 (i + 1) _ _ _ (by omega) (by omega) (by rw [← zr0_succ]; exact hM) (lv_sub hl [1, 2, 3, 0] rfl)
  exact hL2 _ 0 _ _ _ (Nat.lt_succ_self _) (by omega) (by rw [zr_0, up_same2 (f := a) (k := 10 + 2 * j + 1) (x := a (10 + 2 * j + 1)) rfl]; exact hM) (lv_sub hl [1, 2, 3, 0] rfl)
set_option maxHeartbeats 400000 in
set_option maxRecDepth 100000 in
theorem c_Sh_hasCell (l : Launch) (D : va_G) (cT : Nat → ClassId) (X : CX) (I : Nat → Int32) (a : Nat → Nat → Int32) (j : Nat) (i : Int32) (sz : Nat) (i' : Int) (hsz : I (10 * (10 + 2 * j) + 2) = nI sz) (h64 : sz ≤ 64) (hj : j < 4) (hi : i.toInt = i') : RDi l D cT (cw cT X I a) y_Sh_hasCell b_Sh_hasCell 2 (some .boolean) 0 0 [.ref (X.1 (10 + 2 * j)), .int i] (fun r => r = bI (0 ≤ i' ∧ i' < sz)) := by
  refine rd_entz (own := R_Sh) (by decide) rfl (Nat.le_of_ble_eq_true rfl) ?_
  intro p e s m args below meth c Q hC hK hP hret ls hl
  have hx := hC.1
  have hb := hC.2.1
  replace hl : lv_has ls 2 [(0, .ref (X.1 (10 + 2 * j))), (1, .int i)] := hl
  refine lv_iload_n hx hb d_Sh_hasCell_0 rfl (lv_at hl 1 rfl) ?_
  refine yz_lt hx hb i.toInt (rfl) d_Sh_hasCell_1 (tgt := 22) (by decide) (fun h1 => ?_) (fun h1 => ?_)
  · skip
    refine lv_iconst (v := 0) hx hb d_Sh_hasCell_22 (by decide) ?_
    exact hret _ _ _ d_Sh_hasCell_23 (by first | exact Or.inl rfl | exact Or.inr rfl | assumption) ((bI_f (by omega)).symm)
  · skip
    refine lv_iload_n hx hb d_Sh_hasCell_4 rfl (lv_at hl 1 rfl) ?_
    refine lv_aload_n hx hb d_Sh_hasCell_5 rfl (lv_at hl 0 rfl) ?_
    refine rd_get hC in_Sh hK hP (10 + 2 * j) (cw_he (by omega) (cE_S (by omega))) rfl 2 (by decide) wf_Sh_19 rfl (v := .int (nI sz)) (congrArg (fun z : Int32 => some (Value.int z)) (hsz)) d_Sh_hasCell_6 ?_
    refine yc_ge hx hb i.toInt (↑sz : Int) (rfl) (iI_toInt (z := (↑sz : Int)) (by omega) (by omega)) d_Sh_hasCell_9 (tgt := 22) (by decide) (fun h2 => ?_) (fun h2 => ?_)
    · skip
      refine lv_iconst (v := 0) hx hb d_Sh_hasCell_22 (by decide) ?_
      exact hret _ _ _ d_Sh_hasCell_23 (by first | exact Or.inl rfl | exact Or.inr rfl | assumption) ((bI_f (by omega)).symm)
    · skip
      refine lv_iload_n hx hb d_Sh_hasCell_12 rfl (lv_at hl 1 rfl) ?_
      refine lv_bipush (v := 64) hx hb d_Sh_hasCell_13 (by decide) ?_
      refine yc_ge hx hb i.toInt 64 (rfl) (rfl) d_Sh_hasCell_15 (tgt := 22) (by decide) (fun h3 => ?_) (fun h3 => ?_)
      · skip
        refine lv_iconst (v := 0) hx hb d_Sh_hasCell_22 (by decide) ?_
        exact hret _ _ _ d_Sh_hasCell_23 (by first | exact Or.inl rfl | exact Or.inr rfl | assumption) ((bI_f (by omega)).symm)
      · skip
        refine lv_iconst (v := 1) hx hb d_Sh_hasCell_18 (by decide) ?_
        refine lv_goto (tgt := 23) hx hb d_Sh_hasCell_19 (by decide) ?_
        exact hret _ _ _ d_Sh_hasCell_23 (by first | exact Or.inl rfl | exact Or.inr rfl | assumption) ((bI_t (by omega)).symm)
set_option maxHeartbeats 400000 in
set_option maxRecDepth 100000 in
theorem c_Sh_cell (l : Launch) (D : va_G) (cT : Nat → ClassId) (X : CX) (I : Nat → Int32) (a : Nat → Nat → Int32) (j : Nat) (i : Int32) (sz : Nat) (i' : Int) (hsz : I (10 * (10 + 2 * j) + 2) = nI sz) (h64 : sz ≤ 64) (hj : j < 4) (hi : i.toInt = i') : RDi l D cT (cw cT X I a) y_Sh_cell b_Sh_cell 2 (some .int) 1 21 [.ref (X.1 (10 + 2 * j)), .int i] (fun r => r = if 0 ≤ i' ∧ i' < sz then a (10 + 2 * j + 1) i'.toNat else 0) := by
  refine rd_enti (own := R_Sh) (by decide) rfl (Nat.le_of_ble_eq_true rfl) ?_
  intro p e s m args below meth c Q hC hK hP hret ls hl
  have hx := hC.1
  have hb := hC.2.1
  replace hl : lv_has ls 2 [(0, .ref (X.1 (10 + 2 * j))), (1, .int i)] := hl
  refine lv_aload_n hx hb d_Sh_cell_0 rfl (lv_at hl 0 rfl) ?_
  refine lv_iload_n hx hb d_Sh_cell_1 rfl (lv_at hl 1 rfl) ?_
  refine rd_call (np := 1) hC hK hP (cw_he (by omega) (cE_S (by omega))) rfl (c_Sh_hasCell l D cT X I a j i sz i.toInt hsz h64 hj (rfl)) rfl ⟨wl_Sh_22, wi_Sh_hasCell, ws_Sh_hasCell, wc_Sh_hasCell, wn_Sh⟩ ⟨by decide, by decide, by decide +kernel⟩ ⟨Nat.le_of_ble_eq_true rfl, Nat.le_of_ble_eq_true rfl⟩ hl.1 rfl (rest := []) rfl (Nat.le_of_ble_eq_true rfl) ⟨Nat.zero_le _, Nat.zero_le _⟩ d_Sh_cell_2 (fun rr hrr => ?_)
  subst hrr
  refine bz_eq (tgt := 17) hx hb d_Sh_cell_5 (by decide) (fun h1 => ?_) (fun h1 => ?_)
  · skip
    refine lv_iconst (v := 0) hx hb d_Sh_cell_17 (by decide) ?_
    exact hret _ _ _ d_Sh_cell_18 (by rw [if_neg (by omega)])
  · skip
    refine lv_aload_n hx hb d_Sh_cell_8 rfl (lv_at hl 0 rfl) ?_
    refine rd_get hC in_Sh hK hP (10 + 2 * j) (cw_he (by omega) (cE_S (by omega))) rfl 0 (by decide) wf_Sh_9 rfl (v := .ref (X.1 (10 + 2 * j + 1))) (rfl) d_Sh_cell_9 ?_
    refine lv_iload_n hx hb d_Sh_cell_12 rfl (lv_at hl 1 rfl) ?_
    refine rd_iald hC hK hP (10 + 2 * j + 1) (cw_he (by omega) (cE_T (by omega))) i'.toNat (i := i) (nI_ofI hi (by omega)) (by omega) (by decide) (v := (a (10 + 2 * j + 1)) i'.toNat) (rfl) d_Sh_cell_13 ?_
    refine lv_goto (tgt := 18) hx hb d_Sh_cell_14 (by decide) ?_
    exact hret _ _ _ d_Sh_cell_18 (by rw [if_pos (by omega)])
set_option maxHeartbeats 400000 in
set_option maxRecDepth 100000 in
theorem c_Sh_put (l : Launch) (D : va_G) (cT : Nat → ClassId) (X : CX) (I : Nat → Int32) (a : Nat → Nat → Int32) (j : Nat) (i : Int32) (v : Int32) (sz : Nat) (i' : Int) (hsz : I (10 * (10 + 2 * j) + 2) = nI sz) (h64 : sz ≤ 64) (hj : j < 4) (hi : i.toInt = i') : CMi l D cT X y_Sh_put b_Sh_put 3 (some .boolean) 1 21 [.ref (X.1 (10 + 2 * j)), .int i, .int v] I a (fun r u => if 0 ≤ i' ∧ i' < sz then r = 1 ∧ u = (I, va_up a (10 + 2 * j + 1) (upd (a (10 + 2 * j + 1)) i'.toNat (layC (I (10 * (10 + 2 * j) + 1)) v))) else r = 0 ∧ u = (I, a)) := by
  refine co_entz (own := R_Sh) (by decide) rfl (Nat.le_of_ble_eq_true rfl) ?_
  intro p e s m args below meth c Q hC hK hM hret ls hl
  have hx := hC.1
  have hb := hC.2.1
  replace hl : lv_has ls 3 [(0, .ref (X.1 (10 + 2 * j))), (1, .int i), (2, .int v)] := hl
  refine lv_aload_n hx hb d_Sh_put_0 rfl (lv_at hl 0 rfl) ?_
  refine lv_iload_n hx hb d_Sh_put_1 rfl (lv_at hl 1 rfl) ?_
  refine rd_call (np := 1) hC hK hM.1 (cw_he (by omega) (cE_S (by omega))) rfl (c_Sh_hasCell l D cT X I a j i sz i.toInt hsz h64 hj (rfl)) rfl ⟨wl_Sh_22, wi_Sh_hasCell, ws_Sh_hasCell, wc_Sh_hasCell, wn_Sh⟩ ⟨by decide, by decide, by decide +kernel⟩ ⟨Nat.le_of_ble_eq_true rfl, Nat.le_of_ble_eq_true rfl⟩ hl.1 rfl (rest := []) rfl (Nat.le_of_ble_eq_true rfl) ⟨Nat.zero_le _, Nat.zero_le _⟩ d_Sh_put_2 (fun rr hrr => ?_)
  subst hrr
  refine bz_ne (tgt := 10) hx hb d_Sh_put_5 (by decide) (fun h1 => ?_) (fun h1 => ?_)
  · skip
    refine lv_aload_n hx hb d_Sh_put_10 rfl (lv_at hl 0 rfl) ?_
    refine rd_get hC in_Sh hK hM.1 (10 + 2 * j) (cw_he (by omega) (cE_S (by omega))) rfl 0 (by decide) wf_Sh_9 rfl (v := .ref (X.1 (10 + 2 * j + 1))) (rfl) d_Sh_put_11 ?_
    refine lv_iload_n hx hb d_Sh_put_14 rfl (lv_at hl 1 rfl) ?_
    refine lv_aload_n hx hb d_Sh_put_15 rfl (lv_at hl 0 rfl) ?_
    refine rd_get hC in_Sh hK hM.1 (10 + 2 * j) (cw_he (by omega) (cE_S (by omega))) rfl 1 (by decide) wf_Sh_15 rfl (v := .int (I (10 * (10 + 2 * j) + 1))) (rfl) d_Sh_put_16 ?_
    have hJ2 : ∀ (H : Heap) (locs : List Loc) (ls : Array Slot), CO D cT (CA X) X I a s.heap H locs → lv_has ls 3 [(0, .ref (X.1 (10 + 2 * j))), (1, .int i), (2, .int v)] → W p l e (rmOf 1 21) s m args below meth c H locs 0 0 Q (F0 m 41 ls [.int (if (I (10 * (10 + 2 * j) + 1)) = 0 then v.toInt8.toInt32 else if (I (10 * (10 + 2 * j) + 1)) = 1 then v.toInt16.toInt32 else v), .int i, .ref (X.1 (10 + 2 * j + 1))]) := ?_
    · skip
      refine lv_if_ne (tgt := 27) hx hb d_Sh_put_19 (by decide) (fun h3 => ?_) (fun h3 => ?_)
      · skip
        refine lv_aload_n hx hb d_Sh_put_27 rfl (lv_at hl 0 rfl) ?_
        refine rd_get hC in_Sh hK hM.1 (10 + 2 * j) (cw_he (by omega) (cE_S (by omega))) rfl 1 (by decide) wf_Sh_15 rfl (v := .int (I (10 * (10 + 2 * j) + 1))) (rfl) d_Sh_put_28 ?_
        refine lv_iconst (v := 1) hx hb d_Sh_put_31 (by decide) ?_
        refine lv_icmp_ne (tgt := 40) hx hb d_Sh_put_32 (by decide) (fun h4 => ?_) (fun h4 => ?_)
        · skip
          refine lv_iload_n hx hb d_Sh_put_40 rfl (lv_at hl 2 rfl) ?_
          refine topi_eq (show (v : Int32) = if (I (10 * (10 + 2 * j) + 1)) = 0 then v.toInt8.toInt32 else if (I (10 * (10 + 2 * j) + 1)) = 1 then v.toInt16.toInt32 else v by first | rfl | exact (bI_t (by assumption)).symm | exact (bI_f (by assumption)).symm | exact (bI_f (fun z => z (by assumption))).symm | (rw [if_neg h3, if_neg h4]; done) | (rw [if_neg h3, if_neg h4]; rfl) | (simp only [if_neg h3, if_neg h4]; done) | (simp only [if_neg h3, if_neg h4]; rfl)) ?_
          exact hJ2 _ _ _ (by first | exact hM | (simp only [if_neg h3, if_neg h4]; exact hM)) (by first | exact lv_sub hl [0, 1, 2] rfl | (simp only [if_neg h3, if_neg h4]; exact lv_sub hl [0, 1, 2] rfl))
        · skip
          refine lv_iload_n hx hb d_Sh_put_35 rfl (lv_at hl 2 rfl) ?_
          refine lv_i2s hx hb d_Sh_put_36 rfl ?_
          refine lv_goto (tgt := 41) hx hb d_Sh_put_37 (by decide) ?_
          refine topi_eq (show (v.toInt16.toInt32 : Int32) = if (I (10 * (10 + 2 * j) + 1)) = 0 then v.toInt8.toInt32 else if (I (10 * (10 + 2 * j) + 1)) = 1 then v.toInt16.toInt32 else v by first | rfl | exact (bI_t (by assumption)).symm | exact (bI_f (by assumption)).symm | exact (bI_f (fun z => z (by assumption))).symm | (rw [if_neg h3, if_pos h4]; done) | (rw [if_neg h3, if_pos h4]; rfl) | (simp only [if_neg h3, if_pos h4]; done) | (simp only [if_neg h3, if_pos h4]; rfl)) ?_
          exact hJ2 _ _ _ (by first | exact hM | (simp only [if_neg h3, if_pos h4]; exact hM)) (by first | exact lv_sub hl [0, 1, 2] rfl | (simp only [if_neg h3, if_pos h4]; exact lv_sub hl [0, 1, 2] rfl))
      · skip
        refine lv_iload_n hx hb d_Sh_put_22 rfl (lv_at hl 2 rfl) ?_
        refine lv_i2b hx hb d_Sh_put_23 rfl ?_
        refine lv_goto (tgt := 41) hx hb d_Sh_put_24 (by decide) ?_
        refine topi_eq (show (v.toInt8.toInt32 : Int32) = if (I (10 * (10 + 2 * j) + 1)) = 0 then v.toInt8.toInt32 else if (I (10 * (10 + 2 * j) + 1)) = 1 then v.toInt16.toInt32 else v by first | rfl | exact (bI_t (by assumption)).symm | exact (bI_f (by assumption)).symm | exact (bI_f (fun z => z (by assumption))).symm | (rw [if_pos h3]; done) | (rw [if_pos h3]; rfl) | (simp only [if_pos h3]; done) | (simp only [if_pos h3]; rfl)) ?_
        exact hJ2 _ _ _ (by first | exact hM | (simp only [if_pos h3]; exact hM)) (by first | exact lv_sub hl [0, 1, 2] rfl | (simp only [if_pos h3]; exact lv_sub hl [0, 1, 2] rfl))
    intro H locs ls hM hl
    refine co_iast hC hK hM (10 + 2 * j + 1) (by omega) (fun f => cE_Tu (by omega) f) i'.toNat (i := i) (x := if (I (10 * (10 + 2 * j) + 1)) = 0 then v.toInt8.toInt32 else if (I (10 * (10 + 2 * j) + 1)) = 1 then v.toInt16.toInt32 else v) (nI_ofI hi (by omega)) (by omega) (by decide) d_Sh_put_41 (fun H locs hM => ?_)
    refine lv_iconst (v := 1) hx hb d_Sh_put_42 (by decide) ?_
    exact hret _ _ _ _ _ _ _ d_Sh_put_43 (by first | exact Or.inl rfl | exact Or.inr rfl | assumption) hM (by rw [if_pos (by omega)]; exact ⟨rfl, rfl⟩)
  · skip
    refine lv_iconst (v := 0) hx hb d_Sh_put_8 (by decide) ?_
    exact hret _ _ _ _ _ _ _ d_Sh_put_9 (by first | exact Or.inl rfl | exact Or.inr rfl | assumption) hM (by rw [if_neg (by omega)]; exact ⟨rfl, rfl⟩)
