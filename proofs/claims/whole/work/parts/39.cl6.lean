/-! the class: a body's rows of bits read -/
def rwA (f : Nat → Int32) (y z : Int) : Int32 := if (-7 ≤ y ∧ y ≤ 7) ∧ (-7 ≤ z ∧ z ≤ 7) then f (15 * (z + 7) + (y + 7)).toNat else 0
theorem rpl_b (y z : Int) : -1 ≤ rpl y z ∧ rpl y z ≤ 224 := by unfold rpl; split <;> omega
theorem rwA_y {f : Nat → Int32} {y z : Int} (h : ¬ rpl y z < 0) : f (rpl y z).toNat = rwA f y z := by
  unfold rpl at h ⊢
  unfold rwA
  split
  next q => rfl
  next q => rw [if_neg q] at h; omega
theorem rwA_n {f : Nat → Int32} {y z : Int} (h : rpl y z < 0) : (0 : Int32) = rwA f y z := by
  unfold rpl at h
  unfold rwA
  split
  next q => rw [if_pos q] at h; omega
  next q => rfl
theorem lo_0 : lo16 0 := fun i _ => b_0 i
theorem lo_rwA {f : Nat → Int32} {y z : Int} (h : ∀ q, q < 225 → lo16 (f q)) : lo16 (rwA f y z) := by
  unfold rwA
  split
  · exact h _ (by omega)
  · exact lo_0
theorem iI_n7 (j : Nat) : iI (((↑j : Int) - 7) + 1) = iI ((↑(j + 1) : Int) - 7) := by congr 1; omega
theorem iI_n8 (j : Nat) : iI (((↑j : Int) - 8) + 1) = iI ((↑(j + 1) : Int) - 8) := by congr 1; omega
theorem sm_s1 (s : Nat) (f : Nat → Nat) (n : Nat) : s + sm f (n + 1) = s + sm f n + f n := (Nat.add_assoc _ _ _).symm
def slS (f : Nat → Int32) (z : Int) : Nat := sm (fun j => cn (bt (rwA f ((↑j : Int) - 7) z)) 16) 15
def siz (f : Nat → Int32) : Nat := sm (fun k => slS f ((↑k : Int) - 7)) 15
def olX (f : Nat → Int32) (y z : Int) : Nat := cn (bt (rwA f y z &&& ((rwA f y z <<< ((1 : Int32) &&& 31)) ^^^ (-1)))) 16 + cn (bt (rwA f y z &&& ((rwA f y z >>> ((1 : Int32) &&& 31)) ^^^ (-1)))) 16
def olY (f : Nat → Int32) (y z : Int) : Nat := cn (bt (rwA f y z &&& (rwA f (y - 1) z ^^^ (-1)))) 16 + cn (bt (rwA f y z &&& (rwA f (y + 1) z ^^^ (-1)))) 16
def olR (f : Nat → Int32) (z : Int) (j : Nat) : Nat := olX f ((↑j : Int) - 7) z + olY f ((↑j : Int) - 7) z
theorem olR_s {f : Nat → Int32} {z : Int} {j : Nat} : sm (olR f z) (j + 1) = sm (olR f z) j + olX f ((↑j : Int) - 7) z + olY f ((↑j : Int) - 7) z := (Nat.add_assoc _ _ _).symm
def sqR (f : Nat → Int32) (z : Int) (j : Nat) : Nat := cn (bt (rwA f ((↑j : Int) - 7) z &&& (rwA f ((↑j : Int) - 7) (z - 1) ^^^ (-1)))) 16 + cn (bt (rwA f ((↑j : Int) - 7) z &&& (rwA f ((↑j : Int) - 7) (z + 1) ^^^ (-1)))) 16
def sqT (f : Nat → Int32) (k : Nat) : Nat := sm (olR f ((↑k : Int) - 7)) 15 + sm (sqR f ((↑k : Int) - 7)) 15
theorem sqT_s {f : Nat → Int32} {k : Nat} : sm (sqT f) (k + 1) = sm (sqT f) k + sm (olR f ((↑k : Int) - 7)) 15 + sm (sqR f ((↑k : Int) - 7)) 15 := (Nat.add_assoc _ _ _).symm
def ed1 (f : Nat → Int32) (o : Int32) (y z : Int) : Nat := egs o (rwA f y z) (rwA f (y + 1) z) (rwA f (y + 1) (z + 1)) (rwA f y (z + 1))
def ed2 (f : Nat → Int32) (o : Int32) (y z : Int) : Nat := egs o (rwA f y z) (rwA f y z >>> ((1 : Int32) &&& 31)) (rwA f y (z + 1) >>> ((1 : Int32) &&& 31)) (rwA f y (z + 1))
def ed3 (f : Nat → Int32) (o : Int32) (y z : Int) : Nat := egs o (rwA f y z) (rwA f y z >>> ((1 : Int32) &&& 31)) (rwA f (y + 1) z >>> ((1 : Int32) &&& 31)) (rwA f (y + 1) z)
def edR (f : Nat → Int32) (o : Int32) (z : Int) (j : Nat) : Nat := ed1 f o ((↑j : Int) - 8) z + ed2 f o ((↑j : Int) - 8) z + ed3 f o ((↑j : Int) - 8) z
theorem edR_s {s : Nat} {f : Nat → Int32} {o : Int32} {z : Int} {j : Nat} : s + sm (edR f o z) (j + 1) = s + sm (edR f o z) j + ed1 f o ((↑j : Int) - 8) z + ed2 f o ((↑j : Int) - 8) z + ed3 f o ((↑j : Int) - 8) z := by
  show s + (sm (edR f o z) j + (ed1 f o ((↑j : Int) - 8) z + ed2 f o ((↑j : Int) - 8) z + ed3 f o ((↑j : Int) - 8) z)) = _
  omega
def coN (f : Nat → Int32) (y z : Int) : Int32 := ((rwA f y z ||| rwA f (y + 1) z ||| rwA f y (z + 1) ||| rwA f (y + 1) (z + 1)) ||| ((rwA f y z ||| rwA f (y + 1) z ||| rwA f y (z + 1) ||| rwA f (y + 1) (z + 1)) >>> ((1 : Int32) &&& 31))) &&& (((rwA f y z &&& rwA f (y + 1) z &&& rwA f y (z + 1) &&& rwA f (y + 1) (z + 1)) &&& ((rwA f y z &&& rwA f (y + 1) z &&& rwA f y (z + 1) &&& rwA f (y + 1) (z + 1)) >>> ((1 : Int32) &&& 31))) ^^^ (-1))
def coR (f : Nat → Int32) (z : Int) (j : Nat) : Nat := cn (bt (coN f ((↑j : Int) - 8) z)) 16
theorem lo_coN {f : Nat → Int32} {y z : Int} (h : ∀ q, q < 225 → lo16 (f q)) : lo16 (coN f y z) := by
  have h1 : lo16 (rwA f y z ||| rwA f (y + 1) z ||| rwA f y (z + 1) ||| rwA f (y + 1) (z + 1)) := lo_or (lo_or (lo_or (lo_rwA h) (lo_rwA h)) (lo_rwA h)) (lo_rwA h)
  exact lo_and (lo_or h1 (lo_shr h1))
def thN (f : Nat → Int32) (way : Int32) (y z : Int) : Int32 := if way = 0 then (rwA f y z <<< ((1 : Int32) &&& 31)) ||| (rwA f y z >>> ((1 : Int32) &&& 31)) else if way = 1 then rwA f (y - 1) z ||| rwA f (y + 1) z else rwA f y (z - 1) ||| rwA f y (z + 1)
def thR (f : Nat → Int32) (way : Int32) (z : Int) (j : Nat) : Nat := cn (bt (rwA f ((↑j : Int) - 7) z &&& (thN f way ((↑j : Int) - 7) z ^^^ (-1)))) 16
def hgR (f : Nat → Int32) (z : Int) (j : Nat) : Nat := cn (bt (rwA f ((↑j : Int) - 7) z &&& (rwA f ((↑j : Int) - 7) (z - 1) ^^^ (-1)))) 16
def shR (f g : Nat → Int32) (z : Int) (j : Nat) : Nat := cn (bt (rwA f ((↑j : Int) - 7) z &&& rwA g ((↑j : Int) - 7) z)) 16
theorem rwA_in {f : Nat → Int32} {j k : Nat} (hj : j < 15) (hk : k < 15) : rwA f ((↑j : Int) - 7) ((↑k : Int) - 7) = f (15 * k + j) := by
  unfold rwA
  rw [if_pos (by omega)]
  congr 1
  omega
def rC (f : Nat → Int32) (q : Nat) : Nat := cn (bt (f q)) 16
set_option maxHeartbeats 400000 in
set_option maxRecDepth 100000 in
theorem c_Bo_rowAt (l : Launch) (D : va_G) (cT : Nat → ClassId) (X : CX) (I : Nat → Int32) (a : Nat → Nat → Int32) (b : Nat) (y : Int) (zc : Int)  (hbn : b < X.2.2.2.1) (hy1 : -100 ≤ y) (hy2 : y ≤ 100) (hz1 : -100 ≤ zc) (hz2 : zc ≤ 100) : RDi l D cT (cw cT X I a) y_Bo_rowAt b_Bo_rowAt 4 (some .int) 1 22 [.ref (X.1 (18 + 3 * b)), .int (iI y), .int (iI zc)] (fun r => r = rwA (a (18 + 3 * b + 1)) y zc) := by
  refine rd_enti (own := R_Bo) (by decide) rfl (Nat.le_of_ble_eq_true rfl) ?_
  intro p e s m args below meth c Q hC hK hP hret ls hl
  have hx := hC.1
  have hb := hC.2.1
  replace hl : lv_has ls 4 [(0, .ref (X.1 (18 + 3 * b))), (1, .int (iI y)), (2, .int (iI zc))] := hl
  have hr9 := rpl_b y zc
  refine lv_iload_n hx hb d_Bo_rowAt_0 rfl (lv_at hl 1 rfl) ?_
  refine lv_iload_n hx hb d_Bo_rowAt_1 rfl (lv_at hl 2 rfl) ?_
  refine st_calliN (np := 2) hC hK (c_So_rowPlace l y zc (by omega) (by omega) (by omega) (by omega)) ⟨wL_Bo_43, wt_So_rowPlace, wc_So_rowPlace, wn_So⟩ ⟨by decide, by decide, by decide +kernel⟩ ⟨Nat.le_of_ble_eq_true rfl, Nat.le_of_ble_eq_true rfl⟩ hl.1 rfl (rest := []) rfl (Nat.le_of_ble_eq_true rfl) ⟨Nat.zero_le _, Nat.zero_le _⟩ d_Bo_rowAt_2 (fun rr hrr => ?_)
  subst hrr
  refine lv_istore_n (lv' := [(3, .int (iI (rpl y zc))), (0, .ref (X.1 (18 + 3 * b))), (1, .int (iI y)), (2, .int (iI zc))]) hx hb d_Bo_rowAt_5 rfl hl (by decide) rfl (fun ls hl => ?_)
  refine lv_iload_n hx hb d_Bo_rowAt_6 rfl (lv_at hl 0 rfl) ?_
  refine zz_lt hx hb (rpl y zc) (by omega) (by omega) d_Bo_rowAt_7 (tgt := 17) (by decide) (fun h1 => ?_) (fun h1 => ?_)
  · skip
    refine lv_iconst (v := 0) hx hb d_Bo_rowAt_17 (by decide) ?_
    refine lv_goto (tgt := 27) hx hb d_Bo_rowAt_18 (by decide) ?_
    exact hret _ _ _ d_Bo_rowAt_27 (rwA_n (by omega))
  · skip
    refine lv_iload_n hx hb d_Bo_rowAt_10 rfl (lv_at hl 0 rfl) ?_
    refine lv_sipush (v := 225) hx hb d_Bo_rowAt_11 (by decide) ?_
    refine zc_lt hx hb (rpl y zc) 225 (by omega) (by omega) (by omega) (by omega) d_Bo_rowAt_14 (tgt := 21) (by decide) (fun h2 => ?_) (fun h2 => ?_)
    · skip
      refine lv_aload_n hx hb d_Bo_rowAt_21 rfl (lv_at hl 1 rfl) ?_
      refine rd_get hC in_Bo hK hP (18 + 3 * b) (cw_he (by omega) (cE_B b)) rfl 2 (by decide) wf_Bo_9 rfl (v := .ref (X.1 (18 + 3 * b + 1))) (rfl) d_Bo_rowAt_22 ?_
      refine lv_iload_n hx hb d_Bo_rowAt_25 rfl (lv_at hl 0 rfl) ?_
      refine rd_iald hC hK hP (18 + 3 * b + 1) (cw_he (by omega) (cE_C b)) ((rpl y zc).toNat) (i := iI (rpl y zc)) (by rw [nI_iI, Int.toNat_of_nonneg (by omega)]) (by omega) (by decide) (v := (a (18 + 3 * b + 1)) ((rpl y zc).toNat)) (rfl) d_Bo_rowAt_26 ?_
      exact hret _ _ _ d_Bo_rowAt_27 (rwA_y (by omega))
    · skip
      refine lv_iconst (v := 0) hx hb d_Bo_rowAt_17 (by decide) ?_
      refine lv_goto (tgt := 27) hx hb d_Bo_rowAt_18 (by decide) ?_
      exact hret _ _ _ d_Bo_rowAt_27 (rwA_n (by omega))
set_option maxHeartbeats 400000 in
set_option maxRecDepth 100000 in
theorem c_Bo_sliceSize (l : Launch) (D : va_G) (cT : Nat → ClassId) (X : CX) (I : Nat → Int32) (a : Nat → Nat → Int32) (b : Nat) (zc : Int)  (hbn : b < X.2.2.2.1) (hlo : ∀ q, q < 225 → lo16 (a (18 + 3 * b + 1) q)) (hz1 : -50 ≤ zc) (hz2 : zc ≤ 50) : RDi l D cT (cw cT X I a) y_Bo_sliceSize b_Bo_sliceSize 4 (some .int) 2 45 [.ref (X.1 (18 + 3 * b)), .int (iI zc)] (fun r => r = nI (slS (a (18 + 3 * b + 1)) zc)) := by
  refine rd_enti (own := R_Bo) (by decide) rfl (Nat.le_of_ble_eq_true rfl) ?_
  intro p e s m args below meth c Q hC hK hP hret ls hl
  have hx := hC.1
  have hb := hC.2.1
  replace hl : lv_has ls 4 [(0, .ref (X.1 (18 + 3 * b))), (1, .int (iI zc))] := hl
  refine lv_iconst (v := 0) hx hb d_Bo_sliceSize_0 (by decide) ?_
  refine lv_istore_n (lv' := [(2, .int 0), (0, .ref (X.1 (18 + 3 * b))), (1, .int (iI zc))]) hx hb d_Bo_sliceSize_1 rfl hl (by decide) rfl (fun ls hl => ?_)
  refine lv_bipush (v := (-7)) hx hb d_Bo_sliceSize_2 (by decide) ?_
  refine lv_istore_n (lv' := [(3, .int (-7)), (2, .int 0), (0, .ref (X.1 (18 + 3 * b))), (1, .int (iI zc))]) hx hb d_Bo_sliceSize_4 rfl hl (by decide) rfl (fun ls hl => ?_)
  have hL5 : ∀ (nn : Nat) (j : Nat) (ls : Array Slot), 15 - j < nn → (j ≤ 15) → lv_has ls 4 [(0, .ref (X.1 (18 + 3 * b))), (1, .int (iI zc)), (2, .int (nI (sm (fun j => cn (bt (rwA (a (18 + 3 * b + 1)) ((↑j : Int) - 7) zc)) 16) j))), (3, .int (iI ((↑j : Int) - 7)))] → W p l e (rmOf 2 45) s m args below meth c s.heap [] 0 0 Q (F0 m 5 ls []) := by
    intro nn
    induction nn with
    | zero =>
      intro j ls hmeas5 hj hl
      exact absurd hmeas5 (Nat.not_lt_zero _)
    | succ nn ih5 =>
      intro j ls hmeas5 hj hl
      refine lv_iload_n hx hb d_Bo_sliceSize_5 rfl (lv_at hl 3 rfl) ?_
      refine lv_bipush (v := 7) hx hb d_Bo_sliceSize_6 (by decide) ?_
      refine zc_gt hx hb ((↑j : Int) - 7) 7 (by omega) (by omega) (by omega) (by omega) d_Bo_sliceSize_8 (tgt := 29) (by decide) (fun h1 => ?_) (fun h1 => ?_)
      · skip
        refine lv_iload_n hx hb d_Bo_sliceSize_29 rfl (lv_at hl 2 rfl) ?_
        refine hret _ _ _ d_Bo_sliceSize_30 ?_
        obtain rfl : j = 15 := by omega
        rfl
      · skip
        refine lv_iload_n hx hb d_Bo_sliceSize_11 rfl (lv_at hl 2 rfl) ?_
        refine lv_aload_n hx hb d_Bo_sliceSize_12 rfl (lv_at hl 0 rfl) ?_
        refine lv_iload_n hx hb d_Bo_sliceSize_13 rfl (lv_at hl 3 rfl) ?_
        refine lv_iload_n hx hb d_Bo_sliceSize_14 rfl (lv_at hl 1 rfl) ?_
        refine rd_call (np := 2) hC hK hP (cw_he (by omega) (cE_B b)) rfl (c_Bo_rowAt l D cT X I a b ((↑j : Int) - 7) zc hbn (by omega) (by omega) (by omega) (by omega)) rfl ⟨wl_Bo_51, wi_Bo_rowAt, ws_Bo_rowAt, wc_Bo_rowAt, wn_Bo⟩ ⟨by decide, by decide, by decide +kernel⟩ ⟨Nat.le_of_ble_eq_true rfl, Nat.le_of_ble_eq_true rfl⟩ hl.1 rfl (rest := [.int (nI (sm (fun j => cn (bt (rwA (a (18 + 3 * b + 1)) ((↑j : Int) - 7) zc)) 16) j))]) rfl (Nat.le_of_ble_eq_true rfl) ⟨Nat.zero_le _, Nat.zero_le _⟩ d_Bo_sliceSize_15 (fun rr hrr => ?_)
        subst hrr
        refine st_calli (np := 1) hC (c_In_bitCount l (rwA (a (18 + 3 * b + 1)) ((↑j : Int) - 7) zc) (lo_rwA hlo)) ⟨wl_Bo_54, wt_In_bitCount, wc_In_bitCount, wn_In⟩ ⟨by decide, by decide, by decide +kernel⟩ ⟨Nat.le_of_ble_eq_true rfl, Nat.le_of_ble_eq_true rfl⟩ hl.1 rfl (rest := [.int (nI (sm (fun j => cn (bt (rwA (a (18 + 3 * b + 1)) ((↑j : Int) - 7) zc)) 16) j))]) rfl (Nat.le_of_ble_eq_true rfl) ⟨Nat.zero_le _, Nat.zero_le _⟩ d_Bo_sliceSize_18 (fun rr hrr => ?_)
        subst hrr
        refine lv_iadd hx hb d_Bo_sliceSize_21 ?_
        refine topi_eq (nI_add (sm (fun j => cn (bt (rwA (a (18 + 3 * b + 1)) ((↑j : Int) - 7) zc)) 16) j) (cn (bt (rwA (a (18 + 3 * b + 1)) ((↑j : Int) - 7) zc)) 16)) ?_
        refine lv_istore_n (lv' := [(2, .int (nI ((sm (fun j => cn (bt (rwA (a (18 + 3 * b + 1)) ((↑j : Int) - 7) zc)) 16) j) + (cn (bt (rwA (a (18 + 3 * b + 1)) ((↑j : Int) - 7) zc)) 16)))), (0, .ref (X.1 (18 + 3 * b))), (1, .int (iI zc)), (3, .int (iI ((↑j : Int) - 7)))]) hx hb d_Bo_sliceSize_22 rfl hl (by decide) rfl (fun ls hl => ?_)
        refine lv_iinc (v := iI (((↑j : Int) - 7) + 1)) (lv' := [(3, .int (iI (((↑j : Int) - 7) + 1))), (2, .int (nI ((sm (fun j => cn (bt (rwA (a (18 + 3 * b + 1)) ((↑j : Int) - 7) zc)) 16) j) + (cn (bt (rwA (a (18 + 3 * b + 1)) ((↑j : Int) - 7) zc)) 16)))), (0, .ref (X.1 (18 + 3 * b))), (1, .int (iI zc))]) hx hb d_Bo_sliceSize_23 hl (k := 3) rfl (iI_add ((↑j : Int) - 7) 1) (by decide) rfl (fun ls hl => ?_)
        refine lv_goto (tgt := 5) hx hb d_Bo_sliceSize_26 (by decide) ?_
        exact ih5 (j + 1) _ (by omega) (by omega) (by rw [← iI_n7]; exact lv_sub hl [2, 3, 1, 0] rfl)
  exact hL5 _ 0 _ (Nat.lt_succ_self _) (by omega) (by rw [show iI ((↑(0 : Nat) : Int) - 7) = -7 by decide]; exact lv_sub hl [2, 3, 1, 0] rfl)
set_option maxHeartbeats 400000 in
set_option maxRecDepth 100000 in
theorem c_Bo_size (l : Launch) (D : va_G) (cT : Nat → ClassId) (X : CX) (I : Nat → Int32) (a : Nat → Nat → Int32) (b : Nat)  (hbn : b < X.2.2.2.1) (hlo : ∀ q, q < 225 → lo16 (a (18 + 3 * b + 1) q)) : RDi l D cT (cw cT X I a) y_Bo_size b_Bo_size 3 (some .int) 3 68 [.ref (X.1 (18 + 3 * b))] (fun r => r = nI (siz (a (18 + 3 * b + 1)))) := by
  refine rd_enti (own := R_Bo) (by decide) rfl (Nat.le_of_ble_eq_true rfl) ?_
  intro p e s m args below meth c Q hC hK hP hret ls hl
  have hx := hC.1
  have hb := hC.2.1
  replace hl : lv_has ls 3 [(0, .ref (X.1 (18 + 3 * b)))] := hl
  refine lv_iconst (v := 0) hx hb d_Bo_size_0 (by decide) ?_
  refine lv_istore_n (lv' := [(1, .int 0), (0, .ref (X.1 (18 + 3 * b)))]) hx hb d_Bo_size_1 rfl hl (by decide) rfl (fun ls hl => ?_)
  refine lv_bipush (v := (-7)) hx hb d_Bo_size_2 (by decide) ?_
  refine lv_istore_n (lv' := [(2, .int (-7)), (1, .int 0), (0, .ref (X.1 (18 + 3 * b)))]) hx hb d_Bo_size_4 rfl hl (by decide) rfl (fun ls hl => ?_)
  have hL5 : ∀ (nn : Nat) (k : Nat) (ls : Array Slot), 15 - k < nn → (k ≤ 15) → lv_has ls 3 [(0, .ref (X.1 (18 + 3 * b))), (1, .int (nI (sm (fun k => slS (a (18 + 3 * b + 1)) ((↑k : Int) - 7)) k))), (2, .int (iI ((↑k : Int) - 7)))] → W p l e (rmOf 3 68) s m args below meth c s.heap [] 0 0 Q (F0 m 5 ls []) := by
    intro nn
    induction nn with
    | zero =>
      intro k ls hmeas5 hk hl
      exact absurd hmeas5 (Nat.not_lt_zero _)
    | succ nn ih5 =>
      intro k ls hmeas5 hk hl
      refine lv_iload_n hx hb d_Bo_size_5 rfl (lv_at hl 2 rfl) ?_
      refine lv_bipush (v := 7) hx hb d_Bo_size_6 (by decide) ?_
      refine zc_gt hx hb ((↑k : Int) - 7) 7 (by omega) (by omega) (by omega) (by omega) d_Bo_size_8 (tgt := 25) (by decide) (fun h1 => ?_) (fun h1 => ?_)
      · skip
        refine lv_iload_n hx hb d_Bo_size_25 rfl (lv_at hl 1 rfl) ?_
        refine hret _ _ _ d_Bo_size_26 ?_
        obtain rfl : k = 15 := by omega
        rfl
      · skip
        refine lv_iload_n hx hb d_Bo_size_11 rfl (lv_at hl 1 rfl) ?_
        refine lv_aload_n hx hb d_Bo_size_12 rfl (lv_at hl 0 rfl) ?_
        refine lv_iload_n hx hb d_Bo_size_13 rfl (lv_at hl 2 rfl) ?_
        refine rd_call (np := 1) hC hK hP (cw_he (by omega) (cE_B b)) rfl (c_Bo_sliceSize l D cT X I a b ((↑k : Int) - 7) hbn hlo (by omega) (by omega)) rfl ⟨wl_Bo_47, wi_Bo_sliceSize, ws_Bo_sliceSize, wc_Bo_sliceSize, wn_Bo⟩ ⟨by decide, by decide, by decide +kernel⟩ ⟨Nat.le_of_ble_eq_true rfl, Nat.le_of_ble_eq_true rfl⟩ hl.1 rfl (rest := [.int (nI (sm (fun k => slS (a (18 + 3 * b + 1)) ((↑k : Int) - 7)) k))]) rfl (Nat.le_of_ble_eq_true rfl) ⟨Nat.zero_le _, Nat.zero_le _⟩ d_Bo_size_14 (fun rr hrr => ?_)
        subst hrr
        refine lv_iadd hx hb d_Bo_size_17 ?_
        refine topi_eq (nI_add (sm (fun k => slS (a (18 + 3 * b + 1)) ((↑k : Int) - 7)) k) (slS (a (18 + 3 * b + 1)) ((↑k : Int) - 7))) ?_
        refine lv_istore_n (lv' := [(1, .int (nI ((sm (fun k => slS (a (18 + 3 * b + 1)) ((↑k : Int) - 7)) k) + (slS (a (18 + 3 * b + 1)) ((↑k : Int) - 7))))), (0, .ref (X.1 (18 + 3 * b))), (2, .int (iI ((↑k : Int) - 7)))]) hx hb d_Bo_size_18 rfl hl (by decide) rfl (fun ls hl => ?_)
        refine lv_iinc (v := iI (((↑k : Int) - 7) + 1)) (lv' := [(2, .int (iI (((↑k : Int) - 7) + 1))), (1, .int (nI ((sm (fun k => slS (a (18 + 3 * b + 1)) ((↑k : Int) - 7)) k) + (slS (a (18 + 3 * b + 1)) ((↑k : Int) - 7))))), (0, .ref (X.1 (18 + 3 * b)))]) hx hb d_Bo_size_19 hl (k := 2) rfl (iI_add ((↑k : Int) - 7) 1) (by decide) rfl (fun ls hl => ?_)
        refine lv_goto (tgt := 5) hx hb d_Bo_size_22 (by decide) ?_
        exact ih5 (k + 1) _ (by omega) (by omega) (by rw [← iI_n7]; exact lv_sub hl [2, 1, 0] rfl)
  exact hL5 _ 0 _ (Nat.lt_succ_self _) (by omega) (by rw [show iI ((↑(0 : Nat) : Int) - 7) = -7 by decide]; exact lv_sub hl [2, 1, 0] rfl)
set_option maxHeartbeats 400000 in
set_option maxRecDepth 100000 in
theorem c_Bo_outline (l : Launch) (D : va_G) (cT : Nat → ClassId) (X : CX) (I : Nat → Int32) (a : Nat → Nat → Int32) (b : Nat) (zc : Int)  (hbn : b < X.2.2.2.1) (hlo : ∀ q, q < 225 → lo16 (a (18 + 3 * b + 1) q)) (hz1 : -50 ≤ zc) (hz2 : zc ≤ 50) : RDi l D cT (cw cT X I a) y_Bo_outline b_Bo_outline 5 (some .int) 2 45 [.ref (X.1 (18 + 3 * b)), .int (iI zc)] (fun r => r = nI (sm (olR (a (18 + 3 * b + 1)) zc) 15)) := by
  refine rd_enti (own := R_Bo) (by decide) rfl (Nat.le_of_ble_eq_true rfl) ?_
  intro p e s m args below meth c Q hC hK hP hret ls hl
  have hx := hC.1
  have hb := hC.2.1
  replace hl : lv_has ls 5 [(0, .ref (X.1 (18 + 3 * b))), (1, .int (iI zc))] := hl
  refine lv_iconst (v := 0) hx hb d_Bo_outline_0 (by decide) ?_
  refine lv_istore_n (lv' := [(2, .int 0), (0, .ref (X.1 (18 + 3 * b))), (1, .int (iI zc))]) hx hb d_Bo_outline_1 rfl hl (by decide) rfl (fun ls hl => ?_)
  refine lv_bipush (v := (-7)) hx hb d_Bo_outline_2 (by decide) ?_
  refine lv_istore_n (lv' := [(3, .int (-7)), (2, .int 0), (0, .ref (X.1 (18 + 3 * b))), (1, .int (iI zc))]) hx hb d_Bo_outline_4 rfl hl (by decide) rfl (fun ls hl => ?_)
  have hL5 : ∀ (nn : Nat) (j : Nat) (ls : Array Slot), 15 - j < nn → (j ≤ 15) → lv_has ls 5 [(0, .ref (X.1 (18 + 3 * b))), (1, .int (iI zc)), (2, .int (nI (sm (olR (a (18 + 3 * b + 1)) zc) j))), (3, .int (iI ((↑j : Int) - 7)))] → W p l e (rmOf 2 45) s m args below meth c s.heap [] 0 0 Q (F0 m 5 ls []) := by
    intro nn
    induction nn with
    | zero =>
      intro j ls hmeas5 hj hl
      exact absurd hmeas5 (Nat.not_lt_zero _)
    | succ nn ih5 =>
      intro j ls hmeas5 hj hl
      refine lv_iload_n hx hb d_Bo_outline_5 rfl (lv_at hl 3 rfl) ?_
      refine lv_bipush (v := 7) hx hb d_Bo_outline_6 (by decide) ?_
      refine zc_gt hx hb ((↑j : Int) - 7) 7 (by omega) (by omega) (by omega) (by omega) d_Bo_outline_8 (tgt := 89) (by decide) (fun h1 => ?_) (fun h1 => ?_)
      · skip
        refine lv_iload_n hx hb d_Bo_outline_89 rfl (lv_at hl 2 rfl) ?_
        refine hret _ _ _ d_Bo_outline_90 ?_
        obtain rfl : j = 15 := by omega
        rfl
      · skip
        refine lv_aload_n hx hb d_Bo_outline_11 rfl (lv_at hl 0 rfl) ?_
        refine lv_iload_n hx hb d_Bo_outline_12 rfl (lv_at hl 3 rfl) ?_
        refine lv_iload_n hx hb d_Bo_outline_13 rfl (lv_at hl 1 rfl) ?_
        refine rd_call (np := 2) hC hK hP (cw_he (by omega) (cE_B b)) rfl (c_Bo_rowAt l D cT X I a b ((↑j : Int) - 7) zc hbn (by omega) (by omega) (by omega) (by omega)) rfl ⟨wl_Bo_51, wi_Bo_rowAt, ws_Bo_rowAt, wc_Bo_rowAt, wn_Bo⟩ ⟨by decide, by decide, by decide +kernel⟩ ⟨Nat.le_of_ble_eq_true rfl, Nat.le_of_ble_eq_true rfl⟩ hl.1 rfl (rest := []) rfl (Nat.le_of_ble_eq_true rfl) ⟨Nat.zero_le _, Nat.zero_le _⟩ d_Bo_outline_14 (fun rr hrr => ?_)
        subst hrr
        refine lv_istore (lv' := [(4, .int (rwA (a (18 + 3 * b + 1)) ((↑j : Int) - 7) zc)), (0, .ref (X.1 (18 + 3 * b))), (1, .int (iI zc)), (2, .int (nI (sm (olR (a (18 + 3 * b + 1)) zc) j))), (3, .int (iI ((↑j : Int) - 7)))]) hx hb d_Bo_outline_17 hl (by decide) rfl (fun ls hl => ?_)
        refine lv_iload_n hx hb d_Bo_outline_19 rfl (lv_at hl 3 rfl) ?_
        refine lv_iload hx hb d_Bo_outline_20 (lv_at hl 0 rfl) ?_
        refine lv_iload hx hb d_Bo_outline_22 (lv_at hl 0 rfl) ?_
        refine lv_iconst (v := 1) hx hb d_Bo_outline_24 (by decide) ?_
        refine lv_ishl hx hb d_Bo_outline_25 ?_
        refine lv_iconst (v := (-1)) hx hb d_Bo_outline_26 (by decide) ?_
        refine lv_ixor hx hb d_Bo_outline_27 ?_
        refine lv_iand hx hb d_Bo_outline_28 ?_
        refine st_calli (np := 1) hC (c_In_bitCount l ((rwA (a (18 + 3 * b + 1)) ((↑j : Int) - 7) zc) &&& (((rwA (a (18 + 3 * b + 1)) ((↑j : Int) - 7) zc) <<< (1 &&& 31)) ^^^ (-1))) (lo_and (lo_rwA hlo))) ⟨wl_Bo_54, wt_In_bitCount, wc_In_bitCount, wn_In⟩ ⟨by decide, by decide, by decide +kernel⟩ ⟨Nat.le_of_ble_eq_true rfl, Nat.le_of_ble_eq_true rfl⟩ hl.1 rfl (rest := [.int (nI (sm (olR (a (18 + 3 * b + 1)) zc) j))]) rfl (Nat.le_of_ble_eq_true rfl) ⟨Nat.zero_le _, Nat.zero_le _⟩ d_Bo_outline_29 (fun rr hrr => ?_)
        subst hrr
        refine lv_iload hx hb d_Bo_outline_32 (lv_at hl 0 rfl) ?_
        refine lv_iload hx hb d_Bo_outline_34 (lv_at hl 0 rfl) ?_
        refine lv_iconst (v := 1) hx hb d_Bo_outline_36 (by decide) ?_
        refine lv_ishr hx hb d_Bo_outline_37 ?_
        refine lv_iconst (v := (-1)) hx hb d_Bo_outline_38 (by decide) ?_
        refine lv_ixor hx hb d_Bo_outline_39 ?_
        refine lv_iand hx hb d_Bo_outline_40 ?_
        refine st_calli (np := 1) hC (c_In_bitCount l ((rwA (a (18 + 3 * b + 1)) ((↑j : Int) - 7) zc) &&& (((rwA (a (18 + 3 * b + 1)) ((↑j : Int) - 7) zc) >>> (1 &&& 31)) ^^^ (-1))) (lo_and (lo_rwA hlo))) ⟨wl_Bo_54, wt_In_bitCount, wc_In_bitCount, wn_In⟩ ⟨by decide, by decide, by decide +kernel⟩ ⟨Nat.le_of_ble_eq_true rfl, Nat.le_of_ble_eq_true rfl⟩ hl.1 rfl (rest := [.int (nI (cn (bt ((rwA (a (18 + 3 * b + 1)) ((↑j : Int) - 7) zc) &&& (((rwA (a (18 + 3 * b + 1)) ((↑j : Int) - 7) zc) <<< (1 &&& 31)) ^^^ (-1)))) 16)), .int (nI (sm (olR (a (18 + 3 * b + 1)) zc) j))]) rfl (Nat.le_of_ble_eq_true rfl) ⟨Nat.zero_le _, Nat.zero_le _⟩ d_Bo_outline_41 (fun rr hrr => ?_)
        subst hrr
        refine lv_iadd hx hb d_Bo_outline_44 ?_
        refine topi_eq (nI_add (cn (bt ((rwA (a (18 + 3 * b + 1)) ((↑j : Int) - 7) zc) &&& (((rwA (a (18 + 3 * b + 1)) ((↑j : Int) - 7) zc) <<< (1 &&& 31)) ^^^ (-1)))) 16) (cn (bt ((rwA (a (18 + 3 * b + 1)) ((↑j : Int) - 7) zc) &&& (((rwA (a (18 + 3 * b + 1)) ((↑j : Int) - 7) zc) >>> (1 &&& 31)) ^^^ (-1)))) 16)) ?_
        refine lv_iadd hx hb d_Bo_outline_45 ?_
        refine topi_eq (nI_add (sm (olR (a (18 + 3 * b + 1)) zc) j) ((cn (bt ((rwA (a (18 + 3 * b + 1)) ((↑j : Int) - 7) zc) &&& (((rwA (a (18 + 3 * b + 1)) ((↑j : Int) - 7) zc) <<< (1 &&& 31)) ^^^ (-1)))) 16) + (cn (bt ((rwA (a (18 + 3 * b + 1)) ((↑j : Int) - 7) zc) &&& (((rwA (a (18 + 3 * b + 1)) ((↑j : Int) - 7) zc) >>> (1 &&& 31)) ^^^ (-1)))) 16))) ?_
        refine lv_istore_n (lv' := [(2, .int (nI ((sm (olR (a (18 + 3 * b + 1)) zc) j) + ((cn (bt ((rwA (a (18 + 3 * b + 1)) ((↑j : Int) - 7) zc) &&& (((rwA (a (18 + 3 * b + 1)) ((↑j : Int) - 7) zc) <<< (1 &&& 31)) ^^^ (-1)))) 16) + (cn (bt ((rwA (a (18 + 3 * b + 1)) ((↑j : Int) - 7) zc) &&& (((rwA (a (18 + 3 * b + 1)) ((↑j : Int) - 7) zc) >>> (1 &&& 31)) ^^^ (-1)))) 16))))), (4, .int (rwA (a (18 + 3 * b + 1)) ((↑j : Int) - 7) zc)), (0, .ref (X.1 (18 + 3 * b))), (1, .int (iI zc)), (3, .int (iI ((↑j : Int) - 7)))]) hx hb d_Bo_outline_46 rfl hl (by decide) rfl (fun ls hl => ?_)
        refine lv_iload_n hx hb d_Bo_outline_47 rfl (lv_at hl 0 rfl) ?_
        refine lv_iload hx hb d_Bo_outline_48 (lv_at hl 1 rfl) ?_
        refine lv_aload_n hx hb d_Bo_outline_50 rfl (lv_at hl 2 rfl) ?_
        refine lv_iload_n hx hb d_Bo_outline_51 rfl (lv_at hl 4 rfl) ?_
        refine lv_iconst (v := 1) hx hb d_Bo_outline_52 (by decide) ?_
        refine lv_isub hx hb d_Bo_outline_53 ?_
        refine topi_eq (iI_sub ((↑j : Int) - 7) 1) ?_
        refine lv_iload_n hx hb d_Bo_outline_54 rfl (lv_at hl 3 rfl) ?_
        refine rd_call (np := 2) hC hK hP (cw_he (by omega) (cE_B b)) rfl (c_Bo_rowAt l D cT X I a b (((↑j : Int) - 7) - 1) zc hbn (by omega) (by omega) (by omega) (by omega)) rfl ⟨wl_Bo_51, wi_Bo_rowAt, ws_Bo_rowAt, wc_Bo_rowAt, wn_Bo⟩ ⟨by decide, by decide, by decide +kernel⟩ ⟨Nat.le_of_ble_eq_true rfl, Nat.le_of_ble_eq_true rfl⟩ hl.1 rfl (rest := [.int (rwA (a (18 + 3 * b + 1)) ((↑j : Int) - 7) zc), .int (nI ((sm (olR (a (18 + 3 * b + 1)) zc) j) + ((cn (bt ((rwA (a (18 + 3 * b + 1)) ((↑j : Int) - 7) zc) &&& (((rwA (a (18 + 3 * b + 1)) ((↑j : Int) - 7) zc) <<< (1 &&& 31)) ^^^ (-1)))) 16) + (cn (bt ((rwA (a (18 + 3 * b + 1)) ((↑j : Int) - 7) zc) &&& (((rwA (a (18 + 3 * b + 1)) ((↑j : Int) - 7) zc) >>> (1 &&& 31)) ^^^ (-1)))) 16))))]) rfl (Nat.le_of_ble_eq_true rfl) ⟨Nat.zero_le _, Nat.zero_le _⟩ d_Bo_outline_55 (fun rr hrr => ?_)
        subst hrr
        refine lv_iconst (v := (-1)) hx hb d_Bo_outline_58 (by decide) ?_
        refine lv_ixor hx hb d_Bo_outline_59 ?_
        refine lv_iand hx hb d_Bo_outline_60 ?_
        refine st_calli (np := 1) hC (c_In_bitCount l ((rwA (a (18 + 3 * b + 1)) ((↑j : Int) - 7) zc) &&& ((rwA (a (18 + 3 * b + 1)) (((↑j : Int) - 7) - 1) zc) ^^^ (-1))) (lo_and (lo_rwA hlo))) ⟨wl_Bo_54, wt_In_bitCount, wc_In_bitCount, wn_In⟩ ⟨by decide, by decide, by decide +kernel⟩ ⟨Nat.le_of_ble_eq_true rfl, Nat.le_of_ble_eq_true rfl⟩ hl.1 rfl (rest := [.int (nI ((sm (olR (a (18 + 3 * b + 1)) zc) j) + ((cn (bt ((rwA (a (18 + 3 * b + 1)) ((↑j : Int) - 7) zc) &&& (((rwA (a (18 + 3 * b + 1)) ((↑j : Int) - 7) zc) <<< (1 &&& 31)) ^^^ (-1)))) 16) + (cn (bt ((rwA (a (18 + 3 * b + 1)) ((↑j : Int) - 7) zc) &&& (((rwA (a (18 + 3 * b + 1)) ((↑j : Int) - 7) zc) >>> (1 &&& 31)) ^^^ (-1)))) 16))))]) rfl (Nat.le_of_ble_eq_true rfl) ⟨Nat.zero_le _, Nat.zero_le _⟩ d_Bo_outline_61 (fun rr hrr => ?_)
        subst hrr
        refine lv_iload hx hb d_Bo_outline_64 (lv_at hl 1 rfl) ?_
        refine lv_aload_n hx hb d_Bo_outline_66 rfl (lv_at hl 2 rfl) ?_
        refine lv_iload_n hx hb d_Bo_outline_67 rfl (lv_at hl 4 rfl) ?_
        refine lv_iconst (v := 1) hx hb d_Bo_outline_68 (by decide) ?_
        refine lv_iadd hx hb d_Bo_outline_69 ?_
        refine topi_eq (iI_add ((↑j : Int) - 7) 1) ?_
        refine lv_iload_n hx hb d_Bo_outline_70 rfl (lv_at hl 3 rfl) ?_
        refine rd_call (np := 2) hC hK hP (cw_he (by omega) (cE_B b)) rfl (c_Bo_rowAt l D cT X I a b (((↑j : Int) - 7) + 1) zc hbn (by omega) (by omega) (by omega) (by omega)) rfl ⟨wl_Bo_51, wi_Bo_rowAt, ws_Bo_rowAt, wc_Bo_rowAt, wn_Bo⟩ ⟨by decide, by decide, by decide +kernel⟩ ⟨Nat.le_of_ble_eq_true rfl, Nat.le_of_ble_eq_true rfl⟩ hl.1 rfl (rest := [.int (rwA (a (18 + 3 * b + 1)) ((↑j : Int) - 7) zc), .int (nI (cn (bt ((rwA (a (18 + 3 * b + 1)) ((↑j : Int) - 7) zc) &&& ((rwA (a (18 + 3 * b + 1)) (((↑j : Int) - 7) - 1) zc) ^^^ (-1)))) 16)), .int (nI ((sm (olR (a (18 + 3 * b + 1)) zc) j) + ((cn (bt ((rwA (a (18 + 3 * b + 1)) ((↑j : Int) - 7) zc) &&& (((rwA (a (18 + 3 * b + 1)) ((↑j : Int) - 7) zc) <<< (1 &&& 31)) ^^^ (-1)))) 16) + (cn (bt ((rwA (a (18 + 3 * b + 1)) ((↑j : Int) - 7) zc) &&& (((rwA (a (18 + 3 * b + 1)) ((↑j : Int) - 7) zc) >>> (1 &&& 31)) ^^^ (-1)))) 16))))]) rfl (Nat.le_of_ble_eq_true rfl) ⟨Nat.zero_le _, Nat.zero_le _⟩ d_Bo_outline_71 (fun rr hrr => ?_)
        subst hrr
        refine lv_iconst (v := (-1)) hx hb d_Bo_outline_74 (by decide) ?_
        refine lv_ixor hx hb d_Bo_outline_75 ?_
        refine lv_iand hx hb d_Bo_outline_76 ?_
        refine st_calli (np := 1) hC (c_In_bitCount l ((rwA (a (18 + 3 * b + 1)) ((↑j : Int) - 7) zc) &&& ((rwA (a (18 + 3 * b + 1)) (((↑j : Int) - 7) + 1) zc) ^^^ (-1))) (lo_and (lo_rwA hlo))) ⟨wl_Bo_54, wt_In_bitCount, wc_In_bitCount, wn_In⟩ ⟨by decide, by decide, by decide +kernel⟩ ⟨Nat.le_of_ble_eq_true rfl, Nat.le_of_ble_eq_true rfl⟩ hl.1 rfl (rest := [.int (nI (cn (bt ((rwA (a (18 + 3 * b + 1)) ((↑j : Int) - 7) zc) &&& ((rwA (a (18 + 3 * b + 1)) (((↑j : Int) - 7) - 1) zc) ^^^ (-1)))) 16)), .int (nI ((sm (olR (a (18 + 3 * b + 1)) zc) j) + ((cn (bt ((rwA (a (18 + 3 * b + 1)) ((↑j : Int) - 7) zc) &&& (((rwA (a (18 + 3 * b + 1)) ((↑j : Int) - 7) zc) <<< (1 &&& 31)) ^^^ (-1)))) 16) + (cn (bt ((rwA (a (18 + 3 * b + 1)) ((↑j : Int) - 7) zc) &&& (((rwA (a (18 + 3 * b + 1)) ((↑j : Int) - 7) zc) >>> (1 &&& 31)) ^^^ (-1)))) 16))))]) rfl (Nat.le_of_ble_eq_true rfl) ⟨Nat.zero_le _, Nat.zero_le _⟩ d_Bo_outline_77 (fun rr hrr => ?_)
        subst hrr
        refine lv_iadd hx hb d_Bo_outline_80 ?_
        refine topi_eq (nI_add (cn (bt ((rwA (a (18 + 3 * b + 1)) ((↑j : Int) - 7) zc) &&& ((rwA (a (18 + 3 * b + 1)) (((↑j : Int) - 7) - 1) zc) ^^^ (-1)))) 16) (cn (bt ((rwA (a (18 + 3 * b + 1)) ((↑j : Int) - 7) zc) &&& ((rwA (a (18 + 3 * b + 1)) (((↑j : Int) - 7) + 1) zc) ^^^ (-1)))) 16)) ?_
        refine lv_iadd hx hb d_Bo_outline_81 ?_
        refine topi_eq (nI_add ((sm (olR (a (18 + 3 * b + 1)) zc) j) + ((cn (bt ((rwA (a (18 + 3 * b + 1)) ((↑j : Int) - 7) zc) &&& (((rwA (a (18 + 3 * b + 1)) ((↑j : Int) - 7) zc) <<< (1 &&& 31)) ^^^ (-1)))) 16) + (cn (bt ((rwA (a (18 + 3 * b + 1)) ((↑j : Int) - 7) zc) &&& (((rwA (a (18 + 3 * b + 1)) ((↑j : Int) - 7) zc) >>> (1 &&& 31)) ^^^ (-1)))) 16))) ((cn (bt ((rwA (a (18 + 3 * b + 1)) ((↑j : Int) - 7) zc) &&& ((rwA (a (18 + 3 * b + 1)) (((↑j : Int) - 7) - 1) zc) ^^^ (-1)))) 16) + (cn (bt ((rwA (a (18 + 3 * b + 1)) ((↑j : Int) - 7) zc) &&& ((rwA (a (18 + 3 * b + 1)) (((↑j : Int) - 7) + 1) zc) ^^^ (-1)))) 16))) ?_
        refine lv_istore_n (lv' := [(2, .int (nI (((sm (olR (a (18 + 3 * b + 1)) zc) j) + ((cn (bt ((rwA (a (18 + 3 * b + 1)) ((↑j : Int) - 7) zc) &&& (((rwA (a (18 + 3 * b + 1)) ((↑j : Int) - 7) zc) <<< (1 &&& 31)) ^^^ (-1)))) 16) + (cn (bt ((rwA (a (18 + 3 * b + 1)) ((↑j : Int) - 7) zc) &&& (((rwA (a (18 + 3 * b + 1)) ((↑j : Int) - 7) zc) >>> (1 &&& 31)) ^^^ (-1)))) 16))) + ((cn (bt ((rwA (a (18 + 3 * b + 1)) ((↑j : Int) - 7) zc) &&& ((rwA (a (18 + 3 * b + 1)) (((↑j : Int) - 7) - 1) zc) ^^^ (-1)))) 16) + (cn (bt ((rwA (a (18 + 3 * b + 1)) ((↑j : Int) - 7) zc) &&& ((rwA (a (18 + 3 * b + 1)) (((↑j : Int) - 7) + 1) zc) ^^^ (-1)))) 16))))), (4, .int (rwA (a (18 + 3 * b + 1)) ((↑j : Int) - 7) zc)), (0, .ref (X.1 (18 + 3 * b))), (1, .int (iI zc)), (3, .int (iI ((↑j : Int) - 7)))]) hx hb d_Bo_outline_82 rfl hl (by decide) rfl (fun ls hl => ?_)
        refine lv_iinc (v := iI (((↑j : Int) - 7) + 1)) (lv' := [(3, .int (iI (((↑j : Int) - 7) + 1))), (2, .int (nI (((sm (olR (a (18 + 3 * b + 1)) zc) j) + ((cn (bt ((rwA (a (18 + 3 * b + 1)) ((↑j : Int) - 7) zc) &&& (((rwA (a (18 + 3 * b + 1)) ((↑j : Int) - 7) zc) <<< (1 &&& 31)) ^^^ (-1)))) 16) + (cn (bt ((rwA (a (18 + 3 * b + 1)) ((↑j : Int) - 7) zc) &&& (((rwA (a (18 + 3 * b + 1)) ((↑j : Int) - 7) zc) >>> (1 &&& 31)) ^^^ (-1)))) 16))) + ((cn (bt ((rwA (a (18 + 3 * b + 1)) ((↑j : Int) - 7) zc) &&& ((rwA (a (18 + 3 * b + 1)) (((↑j : Int) - 7) - 1) zc) ^^^ (-1)))) 16) + (cn (bt ((rwA (a (18 + 3 * b + 1)) ((↑j : Int) - 7) zc) &&& ((rwA (a (18 + 3 * b + 1)) (((↑j : Int) - 7) + 1) zc) ^^^ (-1)))) 16))))), (4, .int (rwA (a (18 + 3 * b + 1)) ((↑j : Int) - 7) zc)), (0, .ref (X.1 (18 + 3 * b))), (1, .int (iI zc))]) hx hb d_Bo_outline_83 hl (k := 4) rfl (iI_add ((↑j : Int) - 7) 1) (by decide) rfl (fun ls hl => ?_)
        refine lv_goto (tgt := 5) hx hb d_Bo_outline_86 (by decide) ?_
        exact ih5 (j + 1) _ (by omega) (by omega) (by rw [← iI_n7, olR_s]; exact lv_sub hl [3, 4, 1, 0] rfl)
  exact hL5 _ 0 _ (Nat.lt_succ_self _) (by omega) (by rw [show iI ((↑(0 : Nat) : Int) - 7) = -7 by decide]; exact lv_sub hl [2, 3, 1, 0] rfl)
set_option maxHeartbeats 1000000 in
set_option maxRecDepth 100000 in
theorem c_Bo_squares (l : Launch) (D : va_G) (cT : Nat → ClassId) (X : CX) (I : Nat → Int32) (a : Nat → Nat → Int32) (b : Nat)  (hbn : b < X.2.2.2.1) (hlo : ∀ q, q < 225 → lo16 (a (18 + 3 * b + 1) q)) : RDi l D cT (cw cT X I a) y_Bo_squares b_Bo_squares 5 (some .int) 3 69 [.ref (X.1 (18 + 3 * b))] (fun r => r = nI (sm (sqT (a (18 + 3 * b + 1))) 15)) := by
  refine rd_enti (own := R_Bo) (by decide) rfl (Nat.le_of_ble_eq_true rfl) ?_
  intro p e s m args below meth c Q hC hK hP hret ls hl
  have hx := hC.1
  have hb := hC.2.1
  replace hl : lv_has ls 5 [(0, .ref (X.1 (18 + 3 * b)))] := hl
  refine lv_iconst (v := 0) hx hb d_Bo_squares_0 (by decide) ?_
  refine lv_istore_n (lv' := [(1, .int 0), (0, .ref (X.1 (18 + 3 * b)))]) hx hb d_Bo_squares_1 rfl hl (by decide) rfl (fun ls hl => ?_)
  refine lv_bipush (v := (-7)) hx hb d_Bo_squares_2 (by decide) ?_
  refine lv_istore_n (lv' := [(2, .int (-7)), (1, .int 0), (0, .ref (X.1 (18 + 3 * b)))]) hx hb d_Bo_squares_4 rfl hl (by decide) rfl (fun ls hl => ?_)
  have hL5 : ∀ (nn : Nat) (k : Nat) (ls : Array Slot), 15 - k < nn → (k ≤ 15) → lv_has ls 5 [(0, .ref (X.1 (18 + 3 * b))), (1, .int (nI (sm (sqT (a (18 + 3 * b + 1))) k))), (2, .int (iI ((↑k : Int) - 7)))] → W p l e (rmOf 3 69) s m args below meth c s.heap [] 0 0 Q (F0 m 5 ls []) := by
    intro nn
    induction nn with
    | zero =>
      intro k ls hmeas5 hk hl
      exact absurd hmeas5 (Nat.not_lt_zero _)
    | succ nn ih5 =>
      intro k ls hmeas5 hk hl
      refine lv_iload_n hx hb d_Bo_squares_5 rfl (lv_at hl 2 rfl) ?_
      refine lv_bipush (v := 7) hx hb d_Bo_squares_6 (by decide) ?_
      refine zc_gt hx hb ((↑k : Int) - 7) 7 (by omega) (by omega) (by omega) (by omega) d_Bo_squares_8 (tgt := 84) (by decide) (fun h1 => ?_) (fun h1 => ?_)
      · skip
        refine lv_iload_n hx hb d_Bo_squares_84 rfl (lv_at hl 1 rfl) ?_
        refine hret _ _ _ d_Bo_squares_85 ?_
        obtain rfl : k = 15 := by omega
        rfl
      · skip
        refine lv_iload_n hx hb d_Bo_squares_11 rfl (lv_at hl 1 rfl) ?_
        refine lv_aload_n hx hb d_Bo_squares_12 rfl (lv_at hl 0 rfl) ?_
        refine lv_iload_n hx hb d_Bo_squares_13 rfl (lv_at hl 2 rfl) ?_
        refine rd_call (np := 1) hC hK hP (cw_he (by omega) (cE_B b)) rfl (c_Bo_outline l D cT X I a b ((↑k : Int) - 7) hbn hlo (by omega) (by omega)) rfl ⟨wl_Bo_81, wi_Bo_outline, ws_Bo_outline, wc_Bo_outline, wn_Bo⟩ ⟨by decide, by decide, by decide +kernel⟩ ⟨Nat.le_of_ble_eq_true rfl, Nat.le_of_ble_eq_true rfl⟩ hl.1 rfl (rest := [.int (nI (sm (sqT (a (18 + 3 * b + 1))) k))]) rfl (Nat.le_of_ble_eq_true rfl) ⟨Nat.zero_le _, Nat.zero_le _⟩ d_Bo_squares_14 (fun rr hrr => ?_)
        subst hrr
        refine lv_iadd hx hb d_Bo_squares_17 ?_
        refine topi_eq (nI_add (sm (sqT (a (18 + 3 * b + 1))) k) (sm (olR (a (18 + 3 * b + 1)) ((↑k : Int) - 7)) 15)) ?_
        refine lv_istore_n (lv' := [(1, .int (nI ((sm (sqT (a (18 + 3 * b + 1))) k) + (sm (olR (a (18 + 3 * b + 1)) ((↑k : Int) - 7)) 15)))), (0, .ref (X.1 (18 + 3 * b))), (2, .int (iI ((↑k : Int) - 7)))]) hx hb d_Bo_squares_18 rfl hl (by decide) rfl (fun ls hl => ?_)
        refine lv_bipush (v := (-7)) hx hb d_Bo_squares_19 (by decide) ?_
        refine lv_istore_n (lv' := [(3, .int (-7)), (1, .int (nI ((sm (sqT (a (18 + 3 * b + 1))) k) + (sm (olR (a (18 + 3 * b + 1)) ((↑k : Int) - 7)) 15)))), (0, .ref (X.1 (18 + 3 * b))), (2, .int (iI ((↑k : Int) - 7)))]) hx hb d_Bo_squares_21 rfl hl (by decide) rfl (fun ls hl => ?_)
        have hL22 : ∀ (nn : Nat) (j : Nat) (ls : Array Slot), 15 - j < nn → (j ≤ 15) → lv_has ls 5 [(0, .ref (X.1 (18 + 3 * b))), (1, .int (nI (sm (sqT (a (18 + 3 * b + 1))) k + sm (olR (a (18 + 3 * b + 1)) ((↑k : Int) - 7)) 15 + sm (sqR (a (18 + 3 * b + 1)) ((↑k : Int) - 7)) j))), (2, .int (iI ((↑k : Int) - 7))), (3, .int (iI ((↑j : Int) - 7)))] → W p l e (rmOf 3 69) s m args below meth c s.heap [] 0 0 Q (F0 m 22 ls []) := by
          intro nn
          induction nn with
          | zero =>
            intro j ls hmeas22 hj hl
            exact absurd hmeas22 (Nat.not_lt_zero _)
          | succ nn ih22 =>
            intro j ls hmeas22 hj hl
            refine lv_iload_n hx hb d_Bo_squares_22 rfl (lv_at hl 3 rfl) ?_
            refine lv_bipush (v := 7) hx hb d_Bo_squares_23 (by decide) ?_
            refine zc_gt hx hb ((↑j : Int) - 7) 7 (by omega) (by omega) (by omega) (by omega) d_Bo_squares_25 (tgt := 78) (by decide) (fun h2 => ?_) (fun h2 => ?_)
            · skip
              refine lv_iinc (v := iI (((↑k : Int) - 7) + 1)) (lv' := [(2, .int (iI (((↑k : Int) - 7) + 1))), (0, .ref (X.1 (18 + 3 * b))), (1, .int (nI (sm (sqT (a (18 + 3 * b + 1))) k + sm (olR (a (18 + 3 * b + 1)) ((↑k : Int) - 7)) 15 + sm (sqR (a (18 + 3 * b + 1)) ((↑k : Int) - 7)) j))), (3, .int (iI ((↑j : Int) - 7)))]) hx hb d_Bo_squares_78 hl (k := 2) rfl (iI_add ((↑k : Int) - 7) 1) (by decide) rfl (fun ls hl => ?_)
              refine lv_goto (tgt := 5) hx hb d_Bo_squares_81 (by decide) ?_
              obtain rfl : j = 15 := by omega
              exact ih5 (k + 1) _ (by omega) (by omega) (by rw [← iI_n7, sqT_s]; exact lv_sub hl [1, 2, 0] rfl)
            · skip
              refine lv_aload_n hx hb d_Bo_squares_28 rfl (lv_at hl 0 rfl) ?_
              refine lv_iload_n hx hb d_Bo_squares_29 rfl (lv_at hl 3 rfl) ?_
              refine lv_iload_n hx hb d_Bo_squares_30 rfl (lv_at hl 2 rfl) ?_
              refine rd_call (np := 2) hC hK hP (cw_he (by omega) (cE_B b)) rfl (c_Bo_rowAt l D cT X I a b ((↑j : Int) - 7) ((↑k : Int) - 7) hbn (by omega) (by omega) (by omega) (by omega)) rfl ⟨wl_Bo_51, wi_Bo_rowAt, ws_Bo_rowAt, wc_Bo_rowAt, wn_Bo⟩ ⟨by decide, by decide, by decide +kernel⟩ ⟨Nat.le_of_ble_eq_true rfl, Nat.le_of_ble_eq_true rfl⟩ hl.1 rfl (rest := []) rfl (Nat.le_of_ble_eq_true rfl) ⟨Nat.zero_le _, Nat.zero_le _⟩ d_Bo_squares_31 (fun rr hrr => ?_)
              subst hrr
              refine lv_istore (lv' := [(4, .int (rwA (a (18 + 3 * b + 1)) ((↑j : Int) - 7) ((↑k : Int) - 7))), (0, .ref (X.1 (18 + 3 * b))), (1, .int (nI (sm (sqT (a (18 + 3 * b + 1))) k + sm (olR (a (18 + 3 * b + 1)) ((↑k : Int) - 7)) 15 + sm (sqR (a (18 + 3 * b + 1)) ((↑k : Int) - 7)) j))), (2, .int (iI ((↑k : Int) - 7))), (3, .int (iI ((↑j : Int) - 7)))]) hx hb d_Bo_squares_34 hl (by decide) rfl (fun ls hl => ?_)
              refine lv_iload_n hx hb d_Bo_squares_36 rfl (lv_at hl 2 rfl) ?_
              refine lv_iload hx hb d_Bo_squares_37 (lv_at hl 0 rfl) ?_
              refine lv_aload_n hx hb d_Bo_squares_39 rfl (lv_at hl 1 rfl) ?_
              refine lv_iload_n hx hb d_Bo_squares_40 rfl (lv_at hl 4 rfl) ?_
              refine lv_iload_n hx hb d_Bo_squares_41 rfl (lv_at hl 3 rfl) ?_
              refine lv_iconst (v := 1) hx hb d_Bo_squares_42 (by decide) ?_
              refine lv_isub hx hb d_Bo_squares_43 ?_
              refine topi_eq (iI_sub ((↑k : Int) - 7) 1) ?_
              refine rd_call (np := 2) hC hK hP (cw_he (by omega) (cE_B b)) rfl (c_Bo_rowAt l D cT X I a b ((↑j : Int) - 7) (((↑k : Int) - 7) - 1) hbn (by omega) (by omega) (by omega) (by omega)) rfl ⟨wl_Bo_51, wi_Bo_rowAt, ws_Bo_rowAt, wc_Bo_rowAt, wn_Bo⟩ ⟨by decide, by decide, by decide +kernel⟩ ⟨Nat.le_of_ble_eq_true rfl, Nat.le_of_ble_eq_true rfl⟩ hl.1 rfl (rest := [.int (rwA (a (18 + 3 * b + 1)) ((↑j : Int) - 7) ((↑k : Int) - 7)), .int (nI (sm (sqT (a (18 + 3 * b + 1))) k + sm (olR (a (18 + 3 * b + 1)) ((↑k : Int) - 7)) 15 + sm (sqR (a (18 + 3 * b + 1)) ((↑k : Int) - 7)) j))]) rfl (Nat.le_of_ble_eq_true rfl) ⟨Nat.zero_le _, Nat.zero_le _⟩ d_Bo_squares_44 (fun rr hrr => ?_)
              subst hrr
              refine lv_iconst (v := (-1)) hx hb d_Bo_squares_47 (by decide) ?_
              refine lv_ixor hx hb d_Bo_squares_48 ?_
              refine lv_iand hx hb d_Bo_squares_49 ?_
              refine st_calli (np := 1) hC (c_In_bitCount l ((rwA (a (18 + 3 * b + 1)) ((↑j : Int) - 7) ((↑k : Int) - 7)) &&& ((rwA (a (18 + 3 * b + 1)) ((↑j : Int) - 7) (((↑k : Int) - 7) - 1)) ^^^ (-1))) (lo_and (lo_rwA hlo))) ⟨wl_Bo_54, wt_In_bitCount, wc_In_bitCount, wn_In⟩ ⟨by decide, by decide, by decide +kernel⟩ ⟨Nat.le_of_ble_eq_true rfl, Nat.le_of_ble_eq_true rfl⟩ hl.1 rfl (rest := [.int (nI (sm (sqT (a (18 + 3 * b + 1))) k + sm (olR (a (18 + 3 * b + 1)) ((↑k : Int) - 7)) 15 + sm (sqR (a (18 + 3 * b + 1)) ((↑k : Int) - 7)) j))]) rfl (Nat.le_of_ble_eq_true rfl) ⟨Nat.zero_le _, Nat.zero_le _⟩ d_Bo_squares_50 (fun rr hrr => ?_)
              subst hrr
              refine lv_iload hx hb d_Bo_squares_53 (lv_at hl 0 rfl) ?_
              refine lv_aload_n hx hb d_Bo_squares_55 rfl (lv_at hl 1 rfl) ?_
              refine lv_iload_n hx hb d_Bo_squares_56 rfl (lv_at hl 4 rfl) ?_
              refine lv_iload_n hx hb d_Bo_squares_57 rfl (lv_at hl 3 rfl) ?_
              refine lv_iconst (v := 1) hx hb d_Bo_squares_58 (by decide) ?_
              refine lv_iadd hx hb d_Bo_squares_59 ?_
              refine topi_eq (iI_add ((↑k : Int) - 7) 1) ?_
              refine rd_call (np := 2) hC hK hP (cw_he (by omega) (cE_B b)) rfl (c_Bo_rowAt l D cT X I a b ((↑j : Int) - 7) (((↑k : Int) - 7) + 1) hbn (by omega) (by omega) (by omega) (by omega)) rfl ⟨wl_Bo_51, wi_Bo_rowAt, ws_Bo_rowAt, wc_Bo_rowAt, wn_Bo⟩ ⟨by decide, by decide, by decide +kernel⟩ ⟨Nat.le_of_ble_eq_true rfl, Nat.le_of_ble_eq_true rfl⟩ hl.1 rfl (rest := [.int (rwA (a (18 + 3 * b + 1)) ((↑j : Int) - 7) ((↑k : Int) - 7)), .int (nI (cn (bt ((rwA (a (18 + 3 * b + 1)) ((↑j : Int) - 7) ((↑k : Int) - 7)) &&& ((rwA (a (18 + 3 * b + 1)) ((↑j : Int) - 7) (((↑k : Int) - 7) - 1)) ^^^ (-1)))) 16)), .int (nI (sm (sqT (a (18 + 3 * b + 1))) k + sm (olR (a (18 + 3 * b + 1)) ((↑k : Int) - 7)) 15 + sm (sqR (a (18 + 3 * b + 1)) ((↑k : Int) - 7)) j))]) rfl (Nat.le_of_ble_eq_true rfl) ⟨Nat.zero_le _, Nat.zero_le _⟩ d_Bo_squares_60 (fun rr hrr => ?_)
              subst hrr
              refine lv_iconst (v := (-1)) hx hb d_Bo_squares_63 (by decide) ?_
              refine lv_ixor hx hb d_Bo_squares_64 ?_
              refine lv_iand hx hb d_Bo_squares_65 ?_
              refine st_calli (np := 1) hC (c_In_bitCount l ((rwA (a (18 + 3 * b + 1)) ((↑j : Int) - 7) ((↑k : Int) - 7)) &&& ((rwA (a (18 + 3 * b + 1)) ((↑j : Int) - 7) (((↑k : Int) - 7) + 1)) ^^^ (-1))) (lo_and (lo_rwA hlo))) ⟨wl_Bo_54, wt_In_bitCount, wc_In_bitCount, wn_In⟩ ⟨by decide, by decide, by decide +kernel⟩ ⟨Nat.le_of_ble_eq_true rfl, Nat.le_of_ble_eq_true rfl⟩ hl.1 rfl (rest := [.int (nI (cn (bt ((rwA (a (18 + 3 * b + 1)) ((↑j : Int) - 7) ((↑k : Int) - 7)) &&& ((rwA (a (18 + 3 * b + 1)) ((↑j : Int) - 7) (((↑k : Int) - 7) - 1)) ^^^ (-1)))) 16)), .int (nI (sm (sqT (a (18 + 3 * b + 1))) k + sm (olR (a (18 + 3 * b + 1)) ((↑k : Int) - 7)) 15 + sm (sqR (a (18 + 3 * b + 1)) ((↑k : Int) - 7)) j))]) rfl (Nat.le_of_ble_eq_true rfl) ⟨Nat.zero_le _, Nat.zero_le _⟩ d_Bo_squares_66 (fun rr hrr => ?_)
              subst hrr
              refine lv_iadd hx hb d_Bo_squares_69 ?_
              refine topi_eq (nI_add (cn (bt ((rwA (a (18 + 3 * b + 1)) ((↑j : Int) - 7) ((↑k : Int) - 7)) &&& ((rwA (a (18 + 3 * b + 1)) ((↑j : Int) - 7) (((↑k : Int) - 7) - 1)) ^^^ (-1)))) 16) (cn (bt ((rwA (a (18 + 3 * b + 1)) ((↑j : Int) - 7) ((↑k : Int) - 7)) &&& ((rwA (a (18 + 3 * b + 1)) ((↑j : Int) - 7) (((↑k : Int) - 7) + 1)) ^^^ (-1)))) 16)) ?_
              refine lv_iadd hx hb d_Bo_squares_70 ?_
              refine topi_eq (nI_add (sm (sqT (a (18 + 3 * b + 1))) k + sm (olR (a (18 + 3 * b + 1)) ((↑k : Int) - 7)) 15 + sm (sqR (a (18 + 3 * b + 1)) ((↑k : Int) - 7)) j) ((cn (bt ((rwA (a (18 + 3 * b + 1)) ((↑j : Int) - 7) ((↑k : Int) - 7)) &&& ((rwA (a (18 + 3 * b + 1)) ((↑j : Int) - 7) (((↑k : Int) - 7) - 1)) ^^^ (-1)))) 16) + (cn (bt ((rwA (a (18 + 3 * b + 1)) ((↑j : Int) - 7) ((↑k : Int) - 7)) &&& ((rwA (a (18 + 3 * b + 1)) ((↑j : Int) - 7) (((↑k : Int) - 7) + 1)) ^^^ (-1)))) 16))) ?_
              refine lv_istore_n (lv' := [(1, .int (nI ((sm (sqT (a (18 + 3 * b + 1))) k + sm (olR (a (18 + 3 * b + 1)) ((↑k : Int) - 7)) 15 + sm (sqR (a (18 + 3 * b + 1)) ((↑k : Int) - 7)) j) + ((cn (bt ((rwA (a (18 + 3 * b + 1)) ((↑j : Int) - 7) ((↑k : Int) - 7)) &&& ((rwA (a (18 + 3 * b + 1)) ((↑j : Int) - 7) (((↑k : Int) - 7) - 1)) ^^^ (-1)))) 16) + (cn (bt ((rwA (a (18 + 3 * b + 1)) ((↑j : Int) - 7) ((↑k : Int) - 7)) &&& ((rwA (a (18 + 3 * b + 1)) ((↑j : Int) - 7) (((↑k : Int) - 7) + 1)) ^^^ (-1)))) 16))))), (4, .int (rwA (a (18 + 3 * b + 1)) ((↑j : Int) - 7) ((↑k : Int) - 7))), (0, .ref (X.1 (18 + 3 * b))), (2, .int (iI ((↑k : Int) - 7))), (3, .int (iI ((↑j : Int) - 7)))]) hx hb d_Bo_squares_71 rfl hl (by decide) rfl (fun ls hl => ?_)
              refine lv_iinc (v := iI (((↑j : Int) - 7) + 1)) (lv' := [(3, .int (iI (((↑j : Int) - 7) + 1))), (1, .int (nI ((sm (sqT (a (18 + 3 * b + 1))) k + sm (olR (a (18 + 3 * b + 1)) ((↑k : Int) - 7)) 15 + sm (sqR (a (18 + 3 * b + 1)) ((↑k : Int) - 7)) j) + ((cn (bt ((rwA (a (18 + 3 * b + 1)) ((↑j : Int) - 7) ((↑k : Int) - 7)) &&& ((rwA (a (18 + 3 * b + 1)) ((↑j : Int) - 7) (((↑k : Int) - 7) - 1)) ^^^ (-1)))) 16) + (cn (bt ((rwA (a (18 + 3 * b + 1)) ((↑j : Int) - 7) ((↑k : Int) - 7)) &&& ((rwA (a (18 + 3 * b + 1)) ((↑j : Int) - 7) (((↑k : Int) - 7) + 1)) ^^^ (-1)))) 16))))), (4, .int (rwA (a (18 + 3 * b + 1)) ((↑j : Int) - 7) ((↑k : Int) - 7))), (0, .ref (X.1 (18 + 3 * b))), (2, .int (iI ((↑k : Int) - 7)))]) hx hb d_Bo_squares_72 hl (k := 4) rfl (iI_add ((↑j : Int) - 7) 1) (by decide) rfl (fun ls hl => ?_)
              refine lv_goto (tgt := 22) hx hb d_Bo_squares_75 (by decide) ?_
              exact ih22 (j + 1) _ (by omega) (by omega) (by rw [← iI_n7, sm_s1]; exact lv_sub hl [3, 1, 4, 0] rfl)
        exact hL22 _ 0 _ (Nat.lt_succ_self _) (by omega) (by rw [show iI ((↑(0 : Nat) : Int) - 7) = -7 by decide]; exact lv_sub hl [2, 1, 3, 0] rfl)
  exact hL5 _ 0 _ (Nat.lt_succ_self _) (by omega) (by rw [show iI ((↑(0 : Nat) : Int) - 7) = -7 by decide]; exact lv_sub hl [2, 1, 0] rfl)
set_option maxHeartbeats 1000000 in
set_option maxRecDepth 100000 in
theorem c_Bo_edges (l : Launch) (D : va_G) (cT : Nat → ClassId) (X : CX) (I : Nat → Int32) (a : Nat → Nat → Int32) (b : Nat) (fo : Int32)  (hbn : b < X.2.2.2.1) (hlo : ∀ q, q < 225 → lo16 (a (18 + 3 * b + 1) q)) : RDi l D cT (cw cT X I a) y_Bo_edges b_Bo_edges 8 (some .int) 2 45 [.ref (X.1 (18 + 3 * b)), .int fo] (fun r => r = nI (sm (fun k => sm (edR (a (18 + 3 * b + 1)) fo ((↑k : Int) - 8)) 16) 16)) := by
  refine rd_enti (own := R_Bo) (by decide) rfl (Nat.le_of_ble_eq_true rfl) ?_
  intro p e s m args below meth c Q hC hK hP hret ls hl
  have hx := hC.1
  have hb := hC.2.1
  replace hl : lv_has ls 8 [(0, .ref (X.1 (18 + 3 * b))), (1, .int fo)] := hl
  refine lv_iconst (v := 0) hx hb d_Bo_edges_0 (by decide) ?_
  refine lv_istore_n (lv' := [(2, .int 0), (0, .ref (X.1 (18 + 3 * b))), (1, .int fo)]) hx hb d_Bo_edges_1 rfl hl (by decide) rfl (fun ls hl => ?_)
  refine lv_bipush (v := (-8)) hx hb d_Bo_edges_2 (by decide) ?_
  refine lv_istore_n (lv' := [(3, .int (-8)), (2, .int 0), (0, .ref (X.1 (18 + 3 * b))), (1, .int fo)]) hx hb d_Bo_edges_4 rfl hl (by decide) rfl (fun ls hl => ?_)
  have hL5 : ∀ (nn : Nat) (k : Nat) (ls : Array Slot), 16 - k < nn → (k ≤ 16) → lv_has ls 8 [(0, .ref (X.1 (18 + 3 * b))), (1, .int fo), (2, .int (nI (sm (fun k => sm (edR (a (18 + 3 * b + 1)) fo ((↑k : Int) - 8)) 16) k))), (3, .int (iI ((↑k : Int) - 8)))] → W p l e (rmOf 2 45) s m args below meth c s.heap [] 0 0 Q (F0 m 5 ls []) := by
    intro nn
    induction nn with
    | zero =>
      intro k ls hmeas5 hk hl
      exact absurd hmeas5 (Nat.not_lt_zero _)
    | succ nn ih5 =>
      intro k ls hmeas5 hk hl
      refine lv_iload_n hx hb d_Bo_edges_5 rfl (lv_at hl 3 rfl) ?_
      refine lv_bipush (v := 7) hx hb d_Bo_edges_6 (by decide) ?_
      refine zc_gt hx hb ((↑k : Int) - 8) 7 (by omega) (by omega) (by omega) (by omega) d_Bo_edges_8 (tgt := 127) (by decide) (fun h1 => ?_) (fun h1 => ?_)
      · skip
        refine lv_iload_n hx hb d_Bo_edges_127 rfl (lv_at hl 2 rfl) ?_
        refine hret _ _ _ d_Bo_edges_128 ?_
        obtain rfl : k = 16 := by omega
        rfl
      · skip
        refine lv_bipush (v := (-8)) hx hb d_Bo_edges_11 (by decide) ?_
        refine lv_istore (lv' := [(4, .int (-8)), (0, .ref (X.1 (18 + 3 * b))), (1, .int fo), (2, .int (nI (sm (fun k => sm (edR (a (18 + 3 * b + 1)) fo ((↑k : Int) - 8)) 16) k))), (3, .int (iI ((↑k : Int) - 8)))]) hx hb d_Bo_edges_13 hl (by decide) rfl (fun ls hl => ?_)
        have hL15 : ∀ (nn : Nat) (j : Nat) (ls : Array Slot), 16 - j < nn → (j ≤ 16) → lv_has ls 8 [(0, .ref (X.1 (18 + 3 * b))), (1, .int fo), (2, .int (nI (sm (fun k => sm (edR (a (18 + 3 * b + 1)) fo ((↑k : Int) - 8)) 16) k + sm (edR (a (18 + 3 * b + 1)) fo ((↑k : Int) - 8)) j))), (3, .int (iI ((↑k : Int) - 8))), (4, .int (iI ((↑j : Int) - 8)))] → W p l e (rmOf 2 45) s m args below meth c s.heap [] 0 0 Q (F0 m 15 ls []) := by
          intro nn
          induction nn with
          | zero =>
            intro j ls hmeas15 hj hl
            exact absurd hmeas15 (Nat.not_lt_zero _)
          | succ nn ih15 =>
            intro j ls hmeas15 hj hl
            refine lv_iload hx hb d_Bo_edges_15 (lv_at hl 4 rfl) ?_
            refine lv_bipush (v := 7) hx hb d_Bo_edges_17 (by decide) ?_
            refine zc_gt hx hb ((↑j : Int) - 8) 7 (by omega) (by omega) (by omega) (by omega) d_Bo_edges_19 (tgt := 121) (by decide) (fun h2 => ?_) (fun h2 => ?_)
            · skip
              refine lv_iinc (v := iI (((↑k : Int) - 8) + 1)) (lv' := [(3, .int (iI (((↑k : Int) - 8) + 1))), (0, .ref (X.1 (18 + 3 * b))), (1, .int fo), (2, .int (nI (sm (fun k => sm (edR (a (18 + 3 * b + 1)) fo ((↑k : Int) - 8)) 16) k + sm (edR (a (18 + 3 * b + 1)) fo ((↑k : Int) - 8)) j))), (4, .int (iI ((↑j : Int) - 8)))]) hx hb d_Bo_edges_121 hl (k := 3) rfl (iI_add ((↑k : Int) - 8) 1) (by decide) rfl (fun ls hl => ?_)
              refine lv_goto (tgt := 5) hx hb d_Bo_edges_124 (by decide) ?_
              obtain rfl : j = 16 := by omega
              exact ih5 (k + 1) _ (by omega) (by omega) (by rw [← iI_n8]; exact lv_sub hl [1, 2, 3, 0] rfl)
            · skip
              refine lv_aload_n hx hb d_Bo_edges_22 rfl (lv_at hl 0 rfl) ?_
              refine lv_iload hx hb d_Bo_edges_23 (lv_at hl 4 rfl) ?_
              refine lv_iload_n hx hb d_Bo_edges_25 rfl (lv_at hl 3 rfl) ?_
              refine rd_call (np := 2) hC hK hP (cw_he (by omega) (cE_B b)) rfl (c_Bo_rowAt l D cT X I a b ((↑j : Int) - 8) ((↑k : Int) - 8) hbn (by omega) (by omega) (by omega) (by omega)) rfl ⟨wl_Bo_51, wi_Bo_rowAt, ws_Bo_rowAt, wc_Bo_rowAt, wn_Bo⟩ ⟨by decide, by decide, by decide +kernel⟩ ⟨Nat.le_of_ble_eq_true rfl, Nat.le_of_ble_eq_true rfl⟩ hl.1 rfl (rest := []) rfl (Nat.le_of_ble_eq_true rfl) ⟨Nat.zero_le _, Nat.zero_le _⟩ d_Bo_edges_26 (fun rr hrr => ?_)
              subst hrr
              refine lv_istore (lv' := [(5, .int (rwA (a (18 + 3 * b + 1)) ((↑j : Int) - 8) ((↑k : Int) - 8))), (0, .ref (X.1 (18 + 3 * b))), (1, .int fo), (2, .int (nI (sm (fun k => sm (edR (a (18 + 3 * b + 1)) fo ((↑k : Int) - 8)) 16) k + sm (edR (a (18 + 3 * b + 1)) fo ((↑k : Int) - 8)) j))), (3, .int (iI ((↑k : Int) - 8))), (4, .int (iI ((↑j : Int) - 8)))]) hx hb d_Bo_edges_29 hl (by decide) rfl (fun ls hl => ?_)
              refine lv_aload_n hx hb d_Bo_edges_31 rfl (lv_at hl 1 rfl) ?_
              refine lv_iload hx hb d_Bo_edges_32 (lv_at hl 5 rfl) ?_
              refine lv_iconst (v := 1) hx hb d_Bo_edges_34 (by decide) ?_
              refine lv_iadd hx hb d_Bo_edges_35 ?_
              refine topi_eq (iI_add ((↑j : Int) - 8) 1) ?_
              refine lv_iload_n hx hb d_Bo_edges_36 rfl (lv_at hl 4 rfl) ?_
              refine rd_call (np := 2) hC hK hP (cw_he (by omega) (cE_B b)) rfl (c_Bo_rowAt l D cT X I a b (((↑j : Int) - 8) + 1) ((↑k : Int) - 8) hbn (by omega) (by omega) (by omega) (by omega)) rfl ⟨wl_Bo_51, wi_Bo_rowAt, ws_Bo_rowAt, wc_Bo_rowAt, wn_Bo⟩ ⟨by decide, by decide, by decide +kernel⟩ ⟨Nat.le_of_ble_eq_true rfl, Nat.le_of_ble_eq_true rfl⟩ hl.1 rfl (rest := []) rfl (Nat.le_of_ble_eq_true rfl) ⟨Nat.zero_le _, Nat.zero_le _⟩ d_Bo_edges_37 (fun rr hrr => ?_)
              subst hrr
              refine lv_istore (lv' := [(6, .int (rwA (a (18 + 3 * b + 1)) (((↑j : Int) - 8) + 1) ((↑k : Int) - 8))), (5, .int (rwA (a (18 + 3 * b + 1)) ((↑j : Int) - 8) ((↑k : Int) - 8))), (0, .ref (X.1 (18 + 3 * b))), (1, .int fo), (2, .int (nI (sm (fun k => sm (edR (a (18 + 3 * b + 1)) fo ((↑k : Int) - 8)) 16) k + sm (edR (a (18 + 3 * b + 1)) fo ((↑k : Int) - 8)) j))), (3, .int (iI ((↑k : Int) - 8))), (4, .int (iI ((↑j : Int) - 8)))]) hx hb d_Bo_edges_40 hl (by decide) rfl (fun ls hl => ?_)
              refine lv_aload_n hx hb d_Bo_edges_42 rfl (lv_at hl 2 rfl) ?_
              refine lv_iload hx hb d_Bo_edges_43 (lv_at hl 6 rfl) ?_
              refine lv_iload_n hx hb d_Bo_edges_45 rfl (lv_at hl 5 rfl) ?_
              refine lv_iconst (v := 1) hx hb d_Bo_edges_46 (by decide) ?_
              refine lv_iadd hx hb d_Bo_edges_47 ?_
              refine topi_eq (iI_add ((↑k : Int) - 8) 1) ?_
              refine rd_call (np := 2) hC hK hP (cw_he (by omega) (cE_B b)) rfl (c_Bo_rowAt l D cT X I a b ((↑j : Int) - 8) (((↑k : Int) - 8) + 1) hbn (by omega) (by omega) (by omega) (by omega)) rfl ⟨wl_Bo_51, wi_Bo_rowAt, ws_Bo_rowAt, wc_Bo_rowAt, wn_Bo⟩ ⟨by decide, by decide, by decide +kernel⟩ ⟨Nat.le_of_ble_eq_true rfl, Nat.le_of_ble_eq_true rfl⟩ hl.1 rfl (rest := []) rfl (Nat.le_of_ble_eq_true rfl) ⟨Nat.zero_le _, Nat.zero_le _⟩ d_Bo_edges_48 (fun rr hrr => ?_)
              subst hrr
              refine lv_istore (lv' := [(7, .int (rwA (a (18 + 3 * b + 1)) ((↑j : Int) - 8) (((↑k : Int) - 8) + 1))), (6, .int (rwA (a (18 + 3 * b + 1)) (((↑j : Int) - 8) + 1) ((↑k : Int) - 8))), (5, .int (rwA (a (18 + 3 * b + 1)) ((↑j : Int) - 8) ((↑k : Int) - 8))), (0, .ref (X.1 (18 + 3 * b))), (1, .int fo), (2, .int (nI (sm (fun k => sm (edR (a (18 + 3 * b + 1)) fo ((↑k : Int) - 8)) 16) k + sm (edR (a (18 + 3 * b + 1)) fo ((↑k : Int) - 8)) j))), (3, .int (iI ((↑k : Int) - 8))), (4, .int (iI ((↑j : Int) - 8)))]) hx hb d_Bo_edges_51 hl (by decide) rfl (fun ls hl => ?_)
              refine lv_iload_n hx hb d_Bo_edges_53 rfl (lv_at hl 5 rfl) ?_
              refine lv_iload hx hb d_Bo_edges_54 (lv_at hl 2 rfl) ?_
              refine lv_iload hx hb d_Bo_edges_56 (lv_at hl 1 rfl) ?_
              refine lv_aload_n hx hb d_Bo_edges_58 rfl (lv_at hl 3 rfl) ?_
              refine lv_iload hx hb d_Bo_edges_59 (lv_at hl 7 rfl) ?_
              refine lv_iconst (v := 1) hx hb d_Bo_edges_61 (by decide) ?_
              refine lv_iadd hx hb d_Bo_edges_62 ?_
              refine topi_eq (iI_add ((↑j : Int) - 8) 1) ?_
              refine lv_iload_n hx hb d_Bo_edges_63 rfl (lv_at hl 6 rfl) ?_
              refine lv_iconst (v := 1) hx hb d_Bo_edges_64 (by decide) ?_
              refine lv_iadd hx hb d_Bo_edges_65 ?_
              refine topi_eq (iI_add ((↑k : Int) - 8) 1) ?_
              refine rd_call (np := 2) hC hK hP (cw_he (by omega) (cE_B b)) rfl (c_Bo_rowAt l D cT X I a b (((↑j : Int) - 8) + 1) (((↑k : Int) - 8) + 1) hbn (by omega) (by omega) (by omega) (by omega)) rfl ⟨wl_Bo_51, wi_Bo_rowAt, ws_Bo_rowAt, wc_Bo_rowAt, wn_Bo⟩ ⟨by decide, by decide, by decide +kernel⟩ ⟨Nat.le_of_ble_eq_true rfl, Nat.le_of_ble_eq_true rfl⟩ hl.1 rfl (rest := [.int (rwA (a (18 + 3 * b + 1)) (((↑j : Int) - 8) + 1) ((↑k : Int) - 8)), .int (rwA (a (18 + 3 * b + 1)) ((↑j : Int) - 8) ((↑k : Int) - 8)), .int (nI (sm (fun k => sm (edR (a (18 + 3 * b + 1)) fo ((↑k : Int) - 8)) 16) k + sm (edR (a (18 + 3 * b + 1)) fo ((↑k : Int) - 8)) j))]) rfl (Nat.le_of_ble_eq_true rfl) ⟨Nat.zero_le _, Nat.zero_le _⟩ d_Bo_edges_66 (fun rr hrr => ?_)
              subst hrr
              refine lv_iload hx hb d_Bo_edges_69 (lv_at hl 0 rfl) ?_
              refine lv_iload_n hx hb d_Bo_edges_71 rfl (lv_at hl 4 rfl) ?_
              refine st_calli (np := 5) hC (c_Bo_edgesRound l (rwA (a (18 + 3 * b + 1)) ((↑j : Int) - 8) ((↑k : Int) - 8)) (rwA (a (18 + 3 * b + 1)) (((↑j : Int) - 8) + 1) ((↑k : Int) - 8)) (rwA (a (18 + 3 * b + 1)) (((↑j : Int) - 8) + 1) (((↑k : Int) - 8) + 1)) (rwA (a (18 + 3 * b + 1)) ((↑j : Int) - 8) (((↑k : Int) - 8) + 1)) fo (lo_rwA hlo) (lo_rwA hlo) (lo_rwA hlo) (lo_rwA hlo)) ⟨wl_Bo_84, wt_Bo_edgesRound, wc_Bo_edgesRound, wn_Bo⟩ ⟨by decide, by decide, by decide +kernel⟩ ⟨Nat.le_of_ble_eq_true rfl, Nat.le_of_ble_eq_true rfl⟩ hl.1 rfl (rest := [.int (nI (sm (fun k => sm (edR (a (18 + 3 * b + 1)) fo ((↑k : Int) - 8)) 16) k + sm (edR (a (18 + 3 * b + 1)) fo ((↑k : Int) - 8)) j))]) rfl (Nat.le_of_ble_eq_true rfl) ⟨Nat.zero_le _, Nat.zero_le _⟩ d_Bo_edges_72 (fun rr hrr => ?_)
              subst hrr
              refine lv_iadd hx hb d_Bo_edges_75 ?_
              refine topi_eq (nI_add (sm (fun k => sm (edR (a (18 + 3 * b + 1)) fo ((↑k : Int) - 8)) 16) k + sm (edR (a (18 + 3 * b + 1)) fo ((↑k : Int) - 8)) j) (egs fo (rwA (a (18 + 3 * b + 1)) ((↑j : Int) - 8) ((↑k : Int) - 8)) (rwA (a (18 + 3 * b + 1)) (((↑j : Int) - 8) + 1) ((↑k : Int) - 8)) (rwA (a (18 + 3 * b + 1)) (((↑j : Int) - 8) + 1) (((↑k : Int) - 8) + 1)) (rwA (a (18 + 3 * b + 1)) ((↑j : Int) - 8) (((↑k : Int) - 8) + 1)))) ?_
              refine lv_istore_n (lv' := [(2, .int (nI ((sm (fun k => sm (edR (a (18 + 3 * b + 1)) fo ((↑k : Int) - 8)) 16) k + sm (edR (a (18 + 3 * b + 1)) fo ((↑k : Int) - 8)) j) + (egs fo (rwA (a (18 + 3 * b + 1)) ((↑j : Int) - 8) ((↑k : Int) - 8)) (rwA (a (18 + 3 * b + 1)) (((↑j : Int) - 8) + 1) ((↑k : Int) - 8)) (rwA (a (18 + 3 * b + 1)) (((↑j : Int) - 8) + 1) (((↑k : Int) - 8) + 1)) (rwA (a (18 + 3 * b + 1)) ((↑j : Int) - 8) (((↑k : Int) - 8) + 1)))))), (7, .int (rwA (a (18 + 3 * b + 1)) ((↑j : Int) - 8) (((↑k : Int) - 8) + 1))), (6, .int (rwA (a (18 + 3 * b + 1)) (((↑j : Int) - 8) + 1) ((↑k : Int) - 8))), (5, .int (rwA (a (18 + 3 * b + 1)) ((↑j : Int) - 8) ((↑k : Int) - 8))), (0, .ref (X.1 (18 + 3 * b))), (1, .int fo), (3, .int (iI ((↑k : Int) - 8))), (4, .int (iI ((↑j : Int) - 8)))]) hx hb d_Bo_edges_76 rfl hl (by decide) rfl (fun ls hl => ?_)
              refine lv_iload_n hx hb d_Bo_edges_77 rfl (lv_at hl 0 rfl) ?_
              refine lv_iload hx hb d_Bo_edges_78 (lv_at hl 3 rfl) ?_
              refine lv_iload hx hb d_Bo_edges_80 (lv_at hl 3 rfl) ?_
              refine lv_iconst (v := 1) hx hb d_Bo_edges_82 (by decide) ?_
              refine lv_ishr hx hb d_Bo_edges_83 ?_
              refine lv_iload hx hb d_Bo_edges_84 (lv_at hl 1 rfl) ?_
              refine lv_iconst (v := 1) hx hb d_Bo_edges_86 (by decide) ?_
              refine lv_ishr hx hb d_Bo_edges_87 ?_
              refine lv_iload hx hb d_Bo_edges_88 (lv_at hl 1 rfl) ?_
              refine lv_iload_n hx hb d_Bo_edges_90 rfl (lv_at hl 5 rfl) ?_
              refine st_calli (np := 5) hC (c_Bo_edgesRound l (rwA (a (18 + 3 * b + 1)) ((↑j : Int) - 8) ((↑k : Int) - 8)) ((rwA (a (18 + 3 * b + 1)) ((↑j : Int) - 8) ((↑k : Int) - 8)) >>> (1 &&& 31)) ((rwA (a (18 + 3 * b + 1)) ((↑j : Int) - 8) (((↑k : Int) - 8) + 1)) >>> (1 &&& 31)) (rwA (a (18 + 3 * b + 1)) ((↑j : Int) - 8) (((↑k : Int) - 8) + 1)) fo (lo_rwA hlo) (lo_shr (lo_rwA hlo)) (lo_shr (lo_rwA hlo)) (lo_rwA hlo)) ⟨wl_Bo_84, wt_Bo_edgesRound, wc_Bo_edgesRound, wn_Bo⟩ ⟨by decide, by decide, by decide +kernel⟩ ⟨Nat.le_of_ble_eq_true rfl, Nat.le_of_ble_eq_true rfl⟩ hl.1 rfl (rest := [.int (nI ((sm (fun k => sm (edR (a (18 + 3 * b + 1)) fo ((↑k : Int) - 8)) 16) k + sm (edR (a (18 + 3 * b + 1)) fo ((↑k : Int) - 8)) j) + (egs fo (rwA (a (18 + 3 * b + 1)) ((↑j : Int) - 8) ((↑k : Int) - 8)) (rwA (a (18 + 3 * b + 1)) (((↑j : Int) - 8) + 1) ((↑k : Int) - 8)) (rwA (a (18 + 3 * b + 1)) (((↑j : Int) - 8) + 1) (((↑k : Int) - 8) + 1)) (rwA (a (18 + 3 * b + 1)) ((↑j : Int) - 8) (((↑k : Int) - 8) + 1)))))]) rfl (Nat.le_of_ble_eq_true rfl) ⟨Nat.zero_le _, Nat.zero_le _⟩ d_Bo_edges_91 (fun rr hrr => ?_)
              subst hrr
              refine lv_iadd hx hb d_Bo_edges_94 ?_
              refine topi_eq (nI_add ((sm (fun k => sm (edR (a (18 + 3 * b + 1)) fo ((↑k : Int) - 8)) 16) k + sm (edR (a (18 + 3 * b + 1)) fo ((↑k : Int) - 8)) j) + (egs fo (rwA (a (18 + 3 * b + 1)) ((↑j : Int) - 8) ((↑k : Int) - 8)) (rwA (a (18 + 3 * b + 1)) (((↑j : Int) - 8) + 1) ((↑k : Int) - 8)) (rwA (a (18 + 3 * b + 1)) (((↑j : Int) - 8) + 1) (((↑k : Int) - 8) + 1)) (rwA (a (18 + 3 * b + 1)) ((↑j : Int) - 8) (((↑k : Int) - 8) + 1)))) (egs fo (rwA (a (18 + 3 * b + 1)) ((↑j : Int) - 8) ((↑k : Int) - 8)) ((rwA (a (18 + 3 * b + 1)) ((↑j : Int) - 8) ((↑k : Int) - 8)) >>> (1 &&& 31)) ((rwA (a (18 + 3 * b + 1)) ((↑j : Int) - 8) (((↑k : Int) - 8) + 1)) >>> (1 &&& 31)) (rwA (a (18 + 3 * b + 1)) ((↑j : Int) - 8) (((↑k : Int) - 8) + 1)))) ?_
              refine lv_istore_n (lv' := [(2, .int (nI (((sm (fun k => sm (edR (a (18 + 3 * b + 1)) fo ((↑k : Int) - 8)) 16) k + sm (edR (a (18 + 3 * b + 1)) fo ((↑k : Int) - 8)) j) + (egs fo (rwA (a (18 + 3 * b + 1)) ((↑j : Int) - 8) ((↑k : Int) - 8)) (rwA (a (18 + 3 * b + 1)) (((↑j : Int) - 8) + 1) ((↑k : Int) - 8)) (rwA (a (18 + 3 * b + 1)) (((↑j : Int) - 8) + 1) (((↑k : Int) - 8) + 1)) (rwA (a (18 + 3 * b + 1)) ((↑j : Int) - 8) (((↑k : Int) - 8) + 1)))) + (egs fo (rwA (a (18 + 3 * b + 1)) ((↑j : Int) - 8) ((↑k : Int) - 8)) ((rwA (a (18 + 3 * b + 1)) ((↑j : Int) - 8) ((↑k : Int) - 8)) >>> (1 &&& 31)) ((rwA (a (18 + 3 * b + 1)) ((↑j : Int) - 8) (((↑k : Int) - 8) + 1)) >>> (1 &&& 31)) (rwA (a (18 + 3 * b + 1)) ((↑j : Int) - 8) (((↑k : Int) - 8) + 1)))))), (7, .int (rwA (a (18 + 3 * b + 1)) ((↑j : Int) - 8) (((↑k : Int) - 8) + 1))), (6, .int (rwA (a (18 + 3 * b + 1)) (((↑j : Int) - 8) + 1) ((↑k : Int) - 8))), (5, .int (rwA (a (18 + 3 * b + 1)) ((↑j : Int) - 8) ((↑k : Int) - 8))), (0, .ref (X.1 (18 + 3 * b))), (1, .int fo), (3, .int (iI ((↑k : Int) - 8))), (4, .int (iI ((↑j : Int) - 8)))]) hx hb d_Bo_edges_95 rfl hl (by decide) rfl (fun ls hl => ?_)
              refine lv_iload_n hx hb d_Bo_edges_96 rfl (lv_at hl 0 rfl) ?_
              refine lv_iload hx hb d_Bo_edges_97 (lv_at hl 3 rfl) ?_
              refine lv_iload hx hb d_Bo_edges_99 (lv_at hl 3 rfl) ?_
              refine lv_iconst (v := 1) hx hb d_Bo_edges_101 (by decide) ?_
              refine lv_ishr hx hb d_Bo_edges_102 ?_
              refine lv_iload hx hb d_Bo_edges_103 (lv_at hl 2 rfl) ?_
              refine lv_iconst (v := 1) hx hb d_Bo_edges_105 (by decide) ?_
              refine lv_ishr hx hb d_Bo_edges_106 ?_
              refine lv_iload hx hb d_Bo_edges_107 (lv_at hl 2 rfl) ?_
              refine lv_iload_n hx hb d_Bo_edges_109 rfl (lv_at hl 5 rfl) ?_
              refine st_calli (np := 5) hC (c_Bo_edgesRound l (rwA (a (18 + 3 * b + 1)) ((↑j : Int) - 8) ((↑k : Int) - 8)) ((rwA (a (18 + 3 * b + 1)) ((↑j : Int) - 8) ((↑k : Int) - 8)) >>> (1 &&& 31)) ((rwA (a (18 + 3 * b + 1)) (((↑j : Int) - 8) + 1) ((↑k : Int) - 8)) >>> (1 &&& 31)) (rwA (a (18 + 3 * b + 1)) (((↑j : Int) - 8) + 1) ((↑k : Int) - 8)) fo (lo_rwA hlo) (lo_shr (lo_rwA hlo)) (lo_shr (lo_rwA hlo)) (lo_rwA hlo)) ⟨wl_Bo_84, wt_Bo_edgesRound, wc_Bo_edgesRound, wn_Bo⟩ ⟨by decide, by decide, by decide +kernel⟩ ⟨Nat.le_of_ble_eq_true rfl, Nat.le_of_ble_eq_true rfl⟩ hl.1 rfl (rest := [.int (nI (((sm (fun k => sm (edR (a (18 + 3 * b + 1)) fo ((↑k : Int) - 8)) 16) k + sm (edR (a (18 + 3 * b + 1)) fo ((↑k : Int) - 8)) j) + (egs fo (rwA (a (18 + 3 * b + 1)) ((↑j : Int) - 8) ((↑k : Int) - 8)) (rwA (a (18 + 3 * b + 1)) (((↑j : Int) - 8) + 1) ((↑k : Int) - 8)) (rwA (a (18 + 3 * b + 1)) (((↑j : Int) - 8) + 1) (((↑k : Int) - 8) + 1)) (rwA (a (18 + 3 * b + 1)) ((↑j : Int) - 8) (((↑k : Int) - 8) + 1)))) + (egs fo (rwA (a (18 + 3 * b + 1)) ((↑j : Int) - 8) ((↑k : Int) - 8)) ((rwA (a (18 + 3 * b + 1)) ((↑j : Int) - 8) ((↑k : Int) - 8)) >>> (1 &&& 31)) ((rwA (a (18 + 3 * b + 1)) ((↑j : Int) - 8) (((↑k : Int) - 8) + 1)) >>> (1 &&& 31)) (rwA (a (18 + 3 * b + 1)) ((↑j : Int) - 8) (((↑k : Int) - 8) + 1)))))]) rfl (Nat.le_of_ble_eq_true rfl) ⟨Nat.zero_le _, Nat.zero_le _⟩ d_Bo_edges_110 (fun rr hrr => ?_)
              subst hrr
              refine lv_iadd hx hb d_Bo_edges_113 ?_
              refine topi_eq (nI_add (((sm (fun k => sm (edR (a (18 + 3 * b + 1)) fo ((↑k : Int) - 8)) 16) k + sm (edR (a (18 + 3 * b + 1)) fo ((↑k : Int) - 8)) j) + (egs fo (rwA (a (18 + 3 * b + 1)) ((↑j : Int) - 8) ((↑k : Int) - 8)) (rwA (a (18 + 3 * b + 1)) (((↑j : Int) - 8) + 1) ((↑k : Int) - 8)) (rwA (a (18 + 3 * b + 1)) (((↑j : Int) - 8) + 1) (((↑k : Int) - 8) + 1)) (rwA (a (18 + 3 * b + 1)) ((↑j : Int) - 8) (((↑k : Int) - 8) + 1)))) + (egs fo (rwA (a (18 + 3 * b + 1)) ((↑j : Int) - 8) ((↑k : Int) - 8)) ((rwA (a (18 + 3 * b + 1)) ((↑j : Int) - 8) ((↑k : Int) - 8)) >>> (1 &&& 31)) ((rwA (a (18 + 3 * b + 1)) ((↑j : Int) - 8) (((↑k : Int) - 8) + 1)) >>> (1 &&& 31)) (rwA (a (18 + 3 * b + 1)) ((↑j : Int) - 8) (((↑k : Int) - 8) + 1)))) (egs fo (rwA (a (18 + 3 * b + 1)) ((↑j : Int) - 8) ((↑k : Int) - 8)) ((rwA (a (18 + 3 * b + 1)) ((↑j : Int) - 8) ((↑k : Int) - 8)) >>> (1 &&& 31)) ((rwA (a (18 + 3 * b + 1)) (((↑j : Int) - 8) + 1) ((↑k : Int) - 8)) >>> (1 &&& 31)) (rwA (a (18 + 3 * b + 1)) (((↑j : Int) - 8) + 1) ((↑k : Int) - 8)))) ?_
              refine lv_istore_n (lv' := [(2, .int (nI ((((sm (fun k => sm (edR (a (18 + 3 * b + 1)) fo ((↑k : Int) - 8)) 16) k + sm (edR (a (18 + 3 * b + 1)) fo ((↑k : Int) - 8)) j) + (egs fo (rwA (a (18 + 3 * b + 1)) ((↑j : Int) - 8) ((↑k : Int) - 8)) (rwA (a (18 + 3 * b + 1)) (((↑j : Int) - 8) + 1) ((↑k : Int) - 8)) (rwA (a (18 + 3 * b + 1)) (((↑j : Int) - 8) + 1) (((↑k : Int) - 8) + 1)) (rwA (a (18 + 3 * b + 1)) ((↑j : Int) - 8) (((↑k : Int) - 8) + 1)))) + (egs fo (rwA (a (18 + 3 * b + 1)) ((↑j : Int) - 8) ((↑k : Int) - 8)) ((rwA (a (18 + 3 * b + 1)) ((↑j : Int) - 8) ((↑k : Int) - 8)) >>> (1 &&& 31)) ((rwA (a (18 + 3 * b + 1)) ((↑j : Int) - 8) (((↑k : Int) - 8) + 1)) >>> (1 &&& 31)) (rwA (a (18 + 3 * b + 1)) ((↑j : Int) - 8) (((↑k : Int) - 8) + 1)))) + (egs fo (rwA (a (18 + 3 * b + 1)) ((↑j : Int) - 8) ((↑k : Int) - 8)) ((rwA (a (18 + 3 * b + 1)) ((↑j : Int) - 8) ((↑k : Int) - 8)) >>> (1 &&& 31)) ((rwA (a (18 + 3 * b + 1)) (((↑j : Int) - 8) + 1) ((↑k : Int) - 8)) >>> (1 &&& 31)) (rwA (a (18 + 3 * b + 1)) (((↑j : Int) - 8) + 1) ((↑k : Int) - 8)))))), (7, .int (rwA (a (18 + 3 * b + 1)) ((↑j : Int) - 8) (((↑k : Int) - 8) + 1))), (6, .int (rwA (a (18 + 3 * b + 1)) (((↑j : Int) - 8) + 1) ((↑k : Int) - 8))), (5, .int (rwA (a (18 + 3 * b + 1)) ((↑j : Int) - 8) ((↑k : Int) - 8))), (0, .ref (X.1 (18 + 3 * b))), (1, .int fo), (3, .int (iI ((↑k : Int) - 8))), (4, .int (iI ((↑j : Int) - 8)))]) hx hb d_Bo_edges_114 rfl hl (by decide) rfl (fun ls hl => ?_)
              refine lv_iinc (v := iI (((↑j : Int) - 8) + 1)) (lv' := [(4, .int (iI (((↑j : Int) - 8) + 1))), (2, .int (nI ((((sm (fun k => sm (edR (a (18 + 3 * b + 1)) fo ((↑k : Int) - 8)) 16) k + sm (edR (a (18 + 3 * b + 1)) fo ((↑k : Int) - 8)) j) + (egs fo (rwA (a (18 + 3 * b + 1)) ((↑j : Int) - 8) ((↑k : Int) - 8)) (rwA (a (18 + 3 * b + 1)) (((↑j : Int) - 8) + 1) ((↑k : Int) - 8)) (rwA (a (18 + 3 * b + 1)) (((↑j : Int) - 8) + 1) (((↑k : Int) - 8) + 1)) (rwA (a (18 + 3 * b + 1)) ((↑j : Int) - 8) (((↑k : Int) - 8) + 1)))) + (egs fo (rwA (a (18 + 3 * b + 1)) ((↑j : Int) - 8) ((↑k : Int) - 8)) ((rwA (a (18 + 3 * b + 1)) ((↑j : Int) - 8) ((↑k : Int) - 8)) >>> (1 &&& 31)) ((rwA (a (18 + 3 * b + 1)) ((↑j : Int) - 8) (((↑k : Int) - 8) + 1)) >>> (1 &&& 31)) (rwA (a (18 + 3 * b + 1)) ((↑j : Int) - 8) (((↑k : Int) - 8) + 1)))) + (egs fo (rwA (a (18 + 3 * b + 1)) ((↑j : Int) - 8) ((↑k : Int) - 8)) ((rwA (a (18 + 3 * b + 1)) ((↑j : Int) - 8) ((↑k : Int) - 8)) >>> (1 &&& 31)) ((rwA (a (18 + 3 * b + 1)) (((↑j : Int) - 8) + 1) ((↑k : Int) - 8)) >>> (1 &&& 31)) (rwA (a (18 + 3 * b + 1)) (((↑j : Int) - 8) + 1) ((↑k : Int) - 8)))))), (7, .int (rwA (a (18 + 3 * b + 1)) ((↑j : Int) - 8) (((↑k : Int) - 8) + 1))), (6, .int (rwA (a (18 + 3 * b + 1)) (((↑j : Int) - 8) + 1) ((↑k : Int) - 8))), (5, .int (rwA (a (18 + 3 * b + 1)) ((↑j : Int) - 8) ((↑k : Int) - 8))), (0, .ref (X.1 (18 + 3 * b))), (1, .int fo), (3, .int (iI ((↑k : Int) - 8)))]) hx hb d_Bo_edges_115 hl (k := 7) rfl (iI_add ((↑j : Int) - 8) 1) (by decide) rfl (fun ls hl => ?_)
              refine lv_goto (tgt := 15) hx hb d_Bo_edges_118 (by decide) ?_
              exact ih15 (j + 1) _ (by omega) (by omega) (by rw [← iI_n8, edR_s]; exact lv_sub hl [5, 6, 1, 7, 0] rfl)
        exact hL15 _ 0 _ (Nat.lt_succ_self _) (by omega) (by rw [show iI ((↑(0 : Nat) : Int) - 8) = -8 by decide]; exact lv_sub hl [1, 2, 3, 4, 0] rfl)
  exact hL5 _ 0 _ (Nat.lt_succ_self _) (by omega) (by rw [show iI ((↑(0 : Nat) : Int) - 8) = -8 by decide]; exact lv_sub hl [2, 3, 1, 0] rfl)
set_option maxHeartbeats 1000000 in
set_option maxRecDepth 100000 in
theorem c_Bo_corners (l : Launch) (D : va_G) (cT : Nat → ClassId) (X : CX) (I : Nat → Int32) (a : Nat → Nat → Int32) (b : Nat)  (hbn : b < X.2.2.2.1) (hlo : ∀ q, q < 225 → lo16 (a (18 + 3 * b + 1) q)) : RDi l D cT (cw cT X I a) y_Bo_corners b_Bo_corners 10 (some .int) 2 45 [.ref (X.1 (18 + 3 * b))] (fun r => r = nI (sm (fun k => sm (coR (a (18 + 3 * b + 1)) ((↑k : Int) - 8)) 16) 16)) := by
  refine rd_enti (own := R_Bo) (by decide) rfl (Nat.le_of_ble_eq_true rfl) ?_
  intro p e s m args below meth c Q hC hK hP hret ls hl
  have hx := hC.1
  have hb := hC.2.1
  replace hl : lv_has ls 10 [(0, .ref (X.1 (18 + 3 * b)))] := hl
  refine lv_iconst (v := 0) hx hb d_Bo_corners_0 (by decide) ?_
  refine lv_istore_n (lv' := [(1, .int 0), (0, .ref (X.1 (18 + 3 * b)))]) hx hb d_Bo_corners_1 rfl hl (by decide) rfl (fun ls hl => ?_)
  refine lv_bipush (v := (-8)) hx hb d_Bo_corners_2 (by decide) ?_
  refine lv_istore_n (lv' := [(2, .int (-8)), (1, .int 0), (0, .ref (X.1 (18 + 3 * b)))]) hx hb d_Bo_corners_4 rfl hl (by decide) rfl (fun ls hl => ?_)
  have hL5 : ∀ (nn : Nat) (k : Nat) (ls : Array Slot), 16 - k < nn → (k ≤ 16) → lv_has ls 10 [(0, .ref (X.1 (18 + 3 * b))), (1, .int (nI (sm (fun k => sm (coR (a (18 + 3 * b + 1)) ((↑k : Int) - 8)) 16) k))), (2, .int (iI ((↑k : Int) - 8)))] → W p l e (rmOf 2 45) s m args below meth c s.heap [] 0 0 Q (F0 m 5 ls []) := by
    intro nn
    induction nn with
    | zero =>
      intro k ls hmeas5 hk hl
      exact absurd hmeas5 (Nat.not_lt_zero _)
    | succ nn ih5 =>
      intro k ls hmeas5 hk hl
      refine lv_iload_n hx hb d_Bo_corners_5 rfl (lv_at hl 2 rfl) ?_
      refine lv_bipush (v := 7) hx hb d_Bo_corners_6 (by decide) ?_
      refine zc_gt hx hb ((↑k : Int) - 8) 7 (by omega) (by omega) (by omega) (by omega) d_Bo_corners_8 (tgt := 121) (by decide) (fun h1 => ?_) (fun h1 => ?_)
      · skip
        refine lv_iload_n hx hb d_Bo_corners_121 rfl (lv_at hl 1 rfl) ?_
        refine hret _ _ _ d_Bo_corners_122 ?_
        obtain rfl : k = 16 := by omega
        rfl
      · skip
        refine lv_bipush (v := (-8)) hx hb d_Bo_corners_11 (by decide) ?_
        refine lv_istore_n (lv' := [(3, .int (-8)), (0, .ref (X.1 (18 + 3 * b))), (1, .int (nI (sm (fun k => sm (coR (a (18 + 3 * b + 1)) ((↑k : Int) - 8)) 16) k))), (2, .int (iI ((↑k : Int) - 8)))]) hx hb d_Bo_corners_13 rfl hl (by decide) rfl (fun ls hl => ?_)
        have hL14 : ∀ (nn : Nat) (j : Nat) (ls : Array Slot), 16 - j < nn → (j ≤ 16) → lv_has ls 10 [(0, .ref (X.1 (18 + 3 * b))), (1, .int (nI (sm (fun k => sm (coR (a (18 + 3 * b + 1)) ((↑k : Int) - 8)) 16) k + sm (coR (a (18 + 3 * b + 1)) ((↑k : Int) - 8)) j))), (2, .int (iI ((↑k : Int) - 8))), (3, .int (iI ((↑j : Int) - 8)))] → W p l e (rmOf 2 45) s m args below meth c s.heap [] 0 0 Q (F0 m 14 ls []) := by
          intro nn
          induction nn with
          | zero =>
            intro j ls hmeas14 hj hl
            exact absurd hmeas14 (Nat.not_lt_zero _)
          | succ nn ih14 =>
            intro j ls hmeas14 hj hl
            refine lv_iload_n hx hb d_Bo_corners_14 rfl (lv_at hl 3 rfl) ?_
            refine lv_bipush (v := 7) hx hb d_Bo_corners_15 (by decide) ?_
            refine zc_gt hx hb ((↑j : Int) - 8) 7 (by omega) (by omega) (by omega) (by omega) d_Bo_corners_17 (tgt := 115) (by decide) (fun h2 => ?_) (fun h2 => ?_)
            · skip
              refine lv_iinc (v := iI (((↑k : Int) - 8) + 1)) (lv' := [(2, .int (iI (((↑k : Int) - 8) + 1))), (0, .ref (X.1 (18 + 3 * b))), (1, .int (nI (sm (fun k => sm (coR (a (18 + 3 * b + 1)) ((↑k : Int) - 8)) 16) k + sm (coR (a (18 + 3 * b + 1)) ((↑k : Int) - 8)) j))), (3, .int (iI ((↑j : Int) - 8)))]) hx hb d_Bo_corners_115 hl (k := 2) rfl (iI_add ((↑k : Int) - 8) 1) (by decide) rfl (fun ls hl => ?_)
              refine lv_goto (tgt := 5) hx hb d_Bo_corners_118 (by decide) ?_
              obtain rfl : j = 16 := by omega
              exact ih5 (k + 1) _ (by omega) (by omega) (by rw [← iI_n8]; exact lv_sub hl [1, 2, 0] rfl)
            · skip
              refine lv_aload_n hx hb d_Bo_corners_20 rfl (lv_at hl 0 rfl) ?_
              refine lv_iload_n hx hb d_Bo_corners_21 rfl (lv_at hl 3 rfl) ?_
              refine lv_iload_n hx hb d_Bo_corners_22 rfl (lv_at hl 2 rfl) ?_
              refine rd_call (np := 2) hC hK hP (cw_he (by omega) (cE_B b)) rfl (c_Bo_rowAt l D cT X I a b ((↑j : Int) - 8) ((↑k : Int) - 8) hbn (by omega) (by omega) (by omega) (by omega)) rfl ⟨wl_Bo_51, wi_Bo_rowAt, ws_Bo_rowAt, wc_Bo_rowAt, wn_Bo⟩ ⟨by decide, by decide, by decide +kernel⟩ ⟨Nat.le_of_ble_eq_true rfl, Nat.le_of_ble_eq_true rfl⟩ hl.1 rfl (rest := []) rfl (Nat.le_of_ble_eq_true rfl) ⟨Nat.zero_le _, Nat.zero_le _⟩ d_Bo_corners_23 (fun rr hrr => ?_)
              subst hrr
              refine lv_istore (lv' := [(4, .int (rwA (a (18 + 3 * b + 1)) ((↑j : Int) - 8) ((↑k : Int) - 8))), (0, .ref (X.1 (18 + 3 * b))), (1, .int (nI (sm (fun k => sm (coR (a (18 + 3 * b + 1)) ((↑k : Int) - 8)) 16) k + sm (coR (a (18 + 3 * b + 1)) ((↑k : Int) - 8)) j))), (2, .int (iI ((↑k : Int) - 8))), (3, .int (iI ((↑j : Int) - 8)))]) hx hb d_Bo_corners_26 hl (by decide) rfl (fun ls hl => ?_)
              refine lv_aload_n hx hb d_Bo_corners_28 rfl (lv_at hl 1 rfl) ?_
              refine lv_iload_n hx hb d_Bo_corners_29 rfl (lv_at hl 4 rfl) ?_
              refine lv_iconst (v := 1) hx hb d_Bo_corners_30 (by decide) ?_
              refine lv_iadd hx hb d_Bo_corners_31 ?_
              refine topi_eq (iI_add ((↑j : Int) - 8) 1) ?_
              refine lv_iload_n hx hb d_Bo_corners_32 rfl (lv_at hl 3 rfl) ?_
              refine rd_call (np := 2) hC hK hP (cw_he (by omega) (cE_B b)) rfl (c_Bo_rowAt l D cT X I a b (((↑j : Int) - 8) + 1) ((↑k : Int) - 8) hbn (by omega) (by omega) (by omega) (by omega)) rfl ⟨wl_Bo_51, wi_Bo_rowAt, ws_Bo_rowAt, wc_Bo_rowAt, wn_Bo⟩ ⟨by decide, by decide, by decide +kernel⟩ ⟨Nat.le_of_ble_eq_true rfl, Nat.le_of_ble_eq_true rfl⟩ hl.1 rfl (rest := []) rfl (Nat.le_of_ble_eq_true rfl) ⟨Nat.zero_le _, Nat.zero_le _⟩ d_Bo_corners_33 (fun rr hrr => ?_)
              subst hrr
              refine lv_istore (lv' := [(5, .int (rwA (a (18 + 3 * b + 1)) (((↑j : Int) - 8) + 1) ((↑k : Int) - 8))), (4, .int (rwA (a (18 + 3 * b + 1)) ((↑j : Int) - 8) ((↑k : Int) - 8))), (0, .ref (X.1 (18 + 3 * b))), (1, .int (nI (sm (fun k => sm (coR (a (18 + 3 * b + 1)) ((↑k : Int) - 8)) 16) k + sm (coR (a (18 + 3 * b + 1)) ((↑k : Int) - 8)) j))), (2, .int (iI ((↑k : Int) - 8))), (3, .int (iI ((↑j : Int) - 8)))]) hx hb d_Bo_corners_36 hl (by decide) rfl (fun ls hl => ?_)
              refine lv_aload_n hx hb d_Bo_corners_38 rfl (lv_at hl 2 rfl) ?_
              refine lv_iload_n hx hb d_Bo_corners_39 rfl (lv_at hl 5 rfl) ?_
              refine lv_iload_n hx hb d_Bo_corners_40 rfl (lv_at hl 4 rfl) ?_
              refine lv_iconst (v := 1) hx hb d_Bo_corners_41 (by decide) ?_
              refine lv_iadd hx hb d_Bo_corners_42 ?_
              refine topi_eq (iI_add ((↑k : Int) - 8) 1) ?_
              refine rd_call (np := 2) hC hK hP (cw_he (by omega) (cE_B b)) rfl (c_Bo_rowAt l D cT X I a b ((↑j : Int) - 8) (((↑k : Int) - 8) + 1) hbn (by omega) (by omega) (by omega) (by omega)) rfl ⟨wl_Bo_51, wi_Bo_rowAt, ws_Bo_rowAt, wc_Bo_rowAt, wn_Bo⟩ ⟨by decide, by decide, by decide +kernel⟩ ⟨Nat.le_of_ble_eq_true rfl, Nat.le_of_ble_eq_true rfl⟩ hl.1 rfl (rest := []) rfl (Nat.le_of_ble_eq_true rfl) ⟨Nat.zero_le _, Nat.zero_le _⟩ d_Bo_corners_43 (fun rr hrr => ?_)
              subst hrr
              refine lv_istore (lv' := [(6, .int (rwA (a (18 + 3 * b + 1)) ((↑j : Int) - 8) (((↑k : Int) - 8) + 1))), (5, .int (rwA (a (18 + 3 * b + 1)) (((↑j : Int) - 8) + 1) ((↑k : Int) - 8))), (4, .int (rwA (a (18 + 3 * b + 1)) ((↑j : Int) - 8) ((↑k : Int) - 8))), (0, .ref (X.1 (18 + 3 * b))), (1, .int (nI (sm (fun k => sm (coR (a (18 + 3 * b + 1)) ((↑k : Int) - 8)) 16) k + sm (coR (a (18 + 3 * b + 1)) ((↑k : Int) - 8)) j))), (2, .int (iI ((↑k : Int) - 8))), (3, .int (iI ((↑j : Int) - 8)))]) hx hb d_Bo_corners_46 hl (by decide) rfl (fun ls hl => ?_)
              refine lv_aload_n hx hb d_Bo_corners_48 rfl (lv_at hl 3 rfl) ?_
              refine lv_iload_n hx hb d_Bo_corners_49 rfl (lv_at hl 6 rfl) ?_
              refine lv_iconst (v := 1) hx hb d_Bo_corners_50 (by decide) ?_
              refine lv_iadd hx hb d_Bo_corners_51 ?_
              refine topi_eq (iI_add ((↑j : Int) - 8) 1) ?_
              refine lv_iload_n hx hb d_Bo_corners_52 rfl (lv_at hl 5 rfl) ?_
              refine lv_iconst (v := 1) hx hb d_Bo_corners_53 (by decide) ?_
              refine lv_iadd hx hb d_Bo_corners_54 ?_
              refine topi_eq (iI_add ((↑k : Int) - 8) 1) ?_
              refine rd_call (np := 2) hC hK hP (cw_he (by omega) (cE_B b)) rfl (c_Bo_rowAt l D cT X I a b (((↑j : Int) - 8) + 1) (((↑k : Int) - 8) + 1) hbn (by omega) (by omega) (by omega) (by omega)) rfl ⟨wl_Bo_51, wi_Bo_rowAt, ws_Bo_rowAt, wc_Bo_rowAt, wn_Bo⟩ ⟨by decide, by decide, by decide +kernel⟩ ⟨Nat.le_of_ble_eq_true rfl, Nat.le_of_ble_eq_true rfl⟩ hl.1 rfl (rest := []) rfl (Nat.le_of_ble_eq_true rfl) ⟨Nat.zero_le _, Nat.zero_le _⟩ d_Bo_corners_55 (fun rr hrr => ?_)
              subst hrr
              refine lv_istore (lv' := [(7, .int (rwA (a (18 + 3 * b + 1)) (((↑j : Int) - 8) + 1) (((↑k : Int) - 8) + 1))), (6, .int (rwA (a (18 + 3 * b + 1)) ((↑j : Int) - 8) (((↑k : Int) - 8) + 1))), (5, .int (rwA (a (18 + 3 * b + 1)) (((↑j : Int) - 8) + 1) ((↑k : Int) - 8))), (4, .int (rwA (a (18 + 3 * b + 1)) ((↑j : Int) - 8) ((↑k : Int) - 8))), (0, .ref (X.1 (18 + 3 * b))), (1, .int (nI (sm (fun k => sm (coR (a (18 + 3 * b + 1)) ((↑k : Int) - 8)) 16) k + sm (coR (a (18 + 3 * b + 1)) ((↑k : Int) - 8)) j))), (2, .int (iI ((↑k : Int) - 8))), (3, .int (iI ((↑j : Int) - 8)))]) hx hb d_Bo_corners_58 hl (by decide) rfl (fun ls hl => ?_)
              refine lv_iload hx hb d_Bo_corners_60 (lv_at hl 3 rfl) ?_
              refine lv_iload hx hb d_Bo_corners_62 (lv_at hl 2 rfl) ?_
              refine lv_ior hx hb d_Bo_corners_64 ?_
              refine lv_iload hx hb d_Bo_corners_65 (lv_at hl 1 rfl) ?_
              refine lv_ior hx hb d_Bo_corners_67 ?_
              refine lv_iload hx hb d_Bo_corners_68 (lv_at hl 0 rfl) ?_
              refine lv_ior hx hb d_Bo_corners_70 ?_
              refine lv_istore (lv' := [(8, .int ((((rwA (a (18 + 3 * b + 1)) ((↑j : Int) - 8) ((↑k : Int) - 8)) ||| (rwA (a (18 + 3 * b + 1)) (((↑j : Int) - 8) + 1) ((↑k : Int) - 8))) ||| (rwA (a (18 + 3 * b + 1)) ((↑j : Int) - 8) (((↑k : Int) - 8) + 1))) ||| (rwA (a (18 + 3 * b + 1)) (((↑j : Int) - 8) + 1) (((↑k : Int) - 8) + 1)))), (7, .int (rwA (a (18 + 3 * b + 1)) (((↑j : Int) - 8) + 1) (((↑k : Int) - 8) + 1))), (6, .int (rwA (a (18 + 3 * b + 1)) ((↑j : Int) - 8) (((↑k : Int) - 8) + 1))), (5, .int (rwA (a (18 + 3 * b + 1)) (((↑j : Int) - 8) + 1) ((↑k : Int) - 8))), (4, .int (rwA (a (18 + 3 * b + 1)) ((↑j : Int) - 8) ((↑k : Int) - 8))), (0, .ref (X.1 (18 + 3 * b))), (1, .int (nI (sm (fun k => sm (coR (a (18 + 3 * b + 1)) ((↑k : Int) - 8)) 16) k + sm (coR (a (18 + 3 * b + 1)) ((↑k : Int) - 8)) j))), (2, .int (iI ((↑k : Int) - 8))), (3, .int (iI ((↑j : Int) - 8)))]) hx hb d_Bo_corners_71 hl (by decide) rfl (fun ls hl => ?_)
              refine lv_iload hx hb d_Bo_corners_73 (lv_at hl 4 rfl) ?_
              refine lv_iload hx hb d_Bo_corners_75 (lv_at hl 3 rfl) ?_
              refine lv_iand hx hb d_Bo_corners_77 ?_
              refine lv_iload hx hb d_Bo_corners_78 (lv_at hl 2 rfl) ?_
              refine lv_iand hx hb d_Bo_corners_80 ?_
              refine lv_iload hx hb d_Bo_corners_81 (lv_at hl 1 rfl) ?_
              refine lv_iand hx hb d_Bo_corners_83 ?_
              refine lv_istore (lv' := [(9, .int ((((rwA (a (18 + 3 * b + 1)) ((↑j : Int) - 8) ((↑k : Int) - 8)) &&& (rwA (a (18 + 3 * b + 1)) (((↑j : Int) - 8) + 1) ((↑k : Int) - 8))) &&& (rwA (a (18 + 3 * b + 1)) ((↑j : Int) - 8) (((↑k : Int) - 8) + 1))) &&& (rwA (a (18 + 3 * b + 1)) (((↑j : Int) - 8) + 1) (((↑k : Int) - 8) + 1)))), (8, .int ((((rwA (a (18 + 3 * b + 1)) ((↑j : Int) - 8) ((↑k : Int) - 8)) ||| (rwA (a (18 + 3 * b + 1)) (((↑j : Int) - 8) + 1) ((↑k : Int) - 8))) ||| (rwA (a (18 + 3 * b + 1)) ((↑j : Int) - 8) (((↑k : Int) - 8) + 1))) ||| (rwA (a (18 + 3 * b + 1)) (((↑j : Int) - 8) + 1) (((↑k : Int) - 8) + 1)))), (7, .int (rwA (a (18 + 3 * b + 1)) (((↑j : Int) - 8) + 1) (((↑k : Int) - 8) + 1))), (6, .int (rwA (a (18 + 3 * b + 1)) ((↑j : Int) - 8) (((↑k : Int) - 8) + 1))), (5, .int (rwA (a (18 + 3 * b + 1)) (((↑j : Int) - 8) + 1) ((↑k : Int) - 8))), (4, .int (rwA (a (18 + 3 * b + 1)) ((↑j : Int) - 8) ((↑k : Int) - 8))), (0, .ref (X.1 (18 + 3 * b))), (1, .int (nI (sm (fun k => sm (coR (a (18 + 3 * b + 1)) ((↑k : Int) - 8)) 16) k + sm (coR (a (18 + 3 * b + 1)) ((↑k : Int) - 8)) j))), (2, .int (iI ((↑k : Int) - 8))), (3, .int (iI ((↑j : Int) - 8)))]) hx hb d_Bo_corners_84 hl (by decide) rfl (fun ls hl => ?_)
              refine lv_iload_n hx hb d_Bo_corners_86 rfl (lv_at hl 7 rfl) ?_
              refine lv_iload hx hb d_Bo_corners_87 (lv_at hl 1 rfl) ?_
              refine lv_iload hx hb d_Bo_corners_89 (lv_at hl 1 rfl) ?_
              refine lv_iconst (v := 1) hx hb d_Bo_corners_91 (by decide) ?_
              refine lv_ishr hx hb d_Bo_corners_92 ?_
              refine lv_ior hx hb d_Bo_corners_93 ?_
              refine lv_iload hx hb d_Bo_corners_94 (lv_at hl 0 rfl) ?_
              refine lv_iload hx hb d_Bo_corners_96 (lv_at hl 0 rfl) ?_
              refine lv_iconst (v := 1) hx hb d_Bo_corners_98 (by decide) ?_
              refine lv_ishr hx hb d_Bo_corners_99 ?_
              refine lv_iand hx hb d_Bo_corners_100 ?_
              refine lv_iconst (v := (-1)) hx hb d_Bo_corners_101 (by decide) ?_
              refine lv_ixor hx hb d_Bo_corners_102 ?_
              refine lv_iand hx hb d_Bo_corners_103 ?_
              refine st_calli (np := 1) hC (c_In_bitCount l ((((((rwA (a (18 + 3 * b + 1)) ((↑j : Int) - 8) ((↑k : Int) - 8)) ||| (rwA (a (18 + 3 * b + 1)) (((↑j : Int) - 8) + 1) ((↑k : Int) - 8))) ||| (rwA (a (18 + 3 * b + 1)) ((↑j : Int) - 8) (((↑k : Int) - 8) + 1))) ||| (rwA (a (18 + 3 * b + 1)) (((↑j : Int) - 8) + 1) (((↑k : Int) - 8) + 1))) ||| (((((rwA (a (18 + 3 * b + 1)) ((↑j : Int) - 8) ((↑k : Int) - 8)) ||| (rwA (a (18 + 3 * b + 1)) (((↑j : Int) - 8) + 1) ((↑k : Int) - 8))) ||| (rwA (a (18 + 3 * b + 1)) ((↑j : Int) - 8) (((↑k : Int) - 8) + 1))) ||| (rwA (a (18 + 3 * b + 1)) (((↑j : Int) - 8) + 1) (((↑k : Int) - 8) + 1))) >>> (1 &&& 31))) &&& ((((((rwA (a (18 + 3 * b + 1)) ((↑j : Int) - 8) ((↑k : Int) - 8)) &&& (rwA (a (18 + 3 * b + 1)) (((↑j : Int) - 8) + 1) ((↑k : Int) - 8))) &&& (rwA (a (18 + 3 * b + 1)) ((↑j : Int) - 8) (((↑k : Int) - 8) + 1))) &&& (rwA (a (18 + 3 * b + 1)) (((↑j : Int) - 8) + 1) (((↑k : Int) - 8) + 1))) &&& (((((rwA (a (18 + 3 * b + 1)) ((↑j : Int) - 8) ((↑k : Int) - 8)) &&& (rwA (a (18 + 3 * b + 1)) (((↑j : Int) - 8) + 1) ((↑k : Int) - 8))) &&& (rwA (a (18 + 3 * b + 1)) ((↑j : Int) - 8) (((↑k : Int) - 8) + 1))) &&& (rwA (a (18 + 3 * b + 1)) (((↑j : Int) - 8) + 1) (((↑k : Int) - 8) + 1))) >>> (1 &&& 31))) ^^^ (-1))) (lo_coN hlo)) ⟨wl_Bo_54, wt_In_bitCount, wc_In_bitCount, wn_In⟩ ⟨by decide, by decide, by decide +kernel⟩ ⟨Nat.le_of_ble_eq_true rfl, Nat.le_of_ble_eq_true rfl⟩ hl.1 rfl (rest := [.int (nI (sm (fun k => sm (coR (a (18 + 3 * b + 1)) ((↑k : Int) - 8)) 16) k + sm (coR (a (18 + 3 * b + 1)) ((↑k : Int) - 8)) j))]) rfl (Nat.le_of_ble_eq_true rfl) ⟨Nat.zero_le _, Nat.zero_le _⟩ d_Bo_corners_104 (fun rr hrr => ?_)
              subst hrr
              refine lv_iadd hx hb d_Bo_corners_107 ?_
              refine topi_eq (nI_add (sm (fun k => sm (coR (a (18 + 3 * b + 1)) ((↑k : Int) - 8)) 16) k + sm (coR (a (18 + 3 * b + 1)) ((↑k : Int) - 8)) j) (cn (bt ((((((rwA (a (18 + 3 * b + 1)) ((↑j : Int) - 8) ((↑k : Int) - 8)) ||| (rwA (a (18 + 3 * b + 1)) (((↑j : Int) - 8) + 1) ((↑k : Int) - 8))) ||| (rwA (a (18 + 3 * b + 1)) ((↑j : Int) - 8) (((↑k : Int) - 8) + 1))) ||| (rwA (a (18 + 3 * b + 1)) (((↑j : Int) - 8) + 1) (((↑k : Int) - 8) + 1))) ||| (((((rwA (a (18 + 3 * b + 1)) ((↑j : Int) - 8) ((↑k : Int) - 8)) ||| (rwA (a (18 + 3 * b + 1)) (((↑j : Int) - 8) + 1) ((↑k : Int) - 8))) ||| (rwA (a (18 + 3 * b + 1)) ((↑j : Int) - 8) (((↑k : Int) - 8) + 1))) ||| (rwA (a (18 + 3 * b + 1)) (((↑j : Int) - 8) + 1) (((↑k : Int) - 8) + 1))) >>> (1 &&& 31))) &&& ((((((rwA (a (18 + 3 * b + 1)) ((↑j : Int) - 8) ((↑k : Int) - 8)) &&& (rwA (a (18 + 3 * b + 1)) (((↑j : Int) - 8) + 1) ((↑k : Int) - 8))) &&& (rwA (a (18 + 3 * b + 1)) ((↑j : Int) - 8) (((↑k : Int) - 8) + 1))) &&& (rwA (a (18 + 3 * b + 1)) (((↑j : Int) - 8) + 1) (((↑k : Int) - 8) + 1))) &&& (((((rwA (a (18 + 3 * b + 1)) ((↑j : Int) - 8) ((↑k : Int) - 8)) &&& (rwA (a (18 + 3 * b + 1)) (((↑j : Int) - 8) + 1) ((↑k : Int) - 8))) &&& (rwA (a (18 + 3 * b + 1)) ((↑j : Int) - 8) (((↑k : Int) - 8) + 1))) &&& (rwA (a (18 + 3 * b + 1)) (((↑j : Int) - 8) + 1) (((↑k : Int) - 8) + 1))) >>> (1 &&& 31))) ^^^ (-1)))) 16)) ?_
              refine lv_istore_n (lv' := [(1, .int (nI ((sm (fun k => sm (coR (a (18 + 3 * b + 1)) ((↑k : Int) - 8)) 16) k + sm (coR (a (18 + 3 * b + 1)) ((↑k : Int) - 8)) j) + (cn (bt ((((((rwA (a (18 + 3 * b + 1)) ((↑j : Int) - 8) ((↑k : Int) - 8)) ||| (rwA (a (18 + 3 * b + 1)) (((↑j : Int) - 8) + 1) ((↑k : Int) - 8))) ||| (rwA (a (18 + 3 * b + 1)) ((↑j : Int) - 8) (((↑k : Int) - 8) + 1))) ||| (rwA (a (18 + 3 * b + 1)) (((↑j : Int) - 8) + 1) (((↑k : Int) - 8) + 1))) ||| (((((rwA (a (18 + 3 * b + 1)) ((↑j : Int) - 8) ((↑k : Int) - 8)) ||| (rwA (a (18 + 3 * b + 1)) (((↑j : Int) - 8) + 1) ((↑k : Int) - 8))) ||| (rwA (a (18 + 3 * b + 1)) ((↑j : Int) - 8) (((↑k : Int) - 8) + 1))) ||| (rwA (a (18 + 3 * b + 1)) (((↑j : Int) - 8) + 1) (((↑k : Int) - 8) + 1))) >>> (1 &&& 31))) &&& ((((((rwA (a (18 + 3 * b + 1)) ((↑j : Int) - 8) ((↑k : Int) - 8)) &&& (rwA (a (18 + 3 * b + 1)) (((↑j : Int) - 8) + 1) ((↑k : Int) - 8))) &&& (rwA (a (18 + 3 * b + 1)) ((↑j : Int) - 8) (((↑k : Int) - 8) + 1))) &&& (rwA (a (18 + 3 * b + 1)) (((↑j : Int) - 8) + 1) (((↑k : Int) - 8) + 1))) &&& (((((rwA (a (18 + 3 * b + 1)) ((↑j : Int) - 8) ((↑k : Int) - 8)) &&& (rwA (a (18 + 3 * b + 1)) (((↑j : Int) - 8) + 1) ((↑k : Int) - 8))) &&& (rwA (a (18 + 3 * b + 1)) ((↑j : Int) - 8) (((↑k : Int) - 8) + 1))) &&& (rwA (a (18 + 3 * b + 1)) (((↑j : Int) - 8) + 1) (((↑k : Int) - 8) + 1))) >>> (1 &&& 31))) ^^^ (-1)))) 16)))), (9, .int ((((rwA (a (18 + 3 * b + 1)) ((↑j : Int) - 8) ((↑k : Int) - 8)) &&& (rwA (a (18 + 3 * b + 1)) (((↑j : Int) - 8) + 1) ((↑k : Int) - 8))) &&& (rwA (a (18 + 3 * b + 1)) ((↑j : Int) - 8) (((↑k : Int) - 8) + 1))) &&& (rwA (a (18 + 3 * b + 1)) (((↑j : Int) - 8) + 1) (((↑k : Int) - 8) + 1)))), (8, .int ((((rwA (a (18 + 3 * b + 1)) ((↑j : Int) - 8) ((↑k : Int) - 8)) ||| (rwA (a (18 + 3 * b + 1)) (((↑j : Int) - 8) + 1) ((↑k : Int) - 8))) ||| (rwA (a (18 + 3 * b + 1)) ((↑j : Int) - 8) (((↑k : Int) - 8) + 1))) ||| (rwA (a (18 + 3 * b + 1)) (((↑j : Int) - 8) + 1) (((↑k : Int) - 8) + 1)))), (7, .int (rwA (a (18 + 3 * b + 1)) (((↑j : Int) - 8) + 1) (((↑k : Int) - 8) + 1))), (6, .int (rwA (a (18 + 3 * b + 1)) ((↑j : Int) - 8) (((↑k : Int) - 8) + 1))), (5, .int (rwA (a (18 + 3 * b + 1)) (((↑j : Int) - 8) + 1) ((↑k : Int) - 8))), (4, .int (rwA (a (18 + 3 * b + 1)) ((↑j : Int) - 8) ((↑k : Int) - 8))), (0, .ref (X.1 (18 + 3 * b))), (2, .int (iI ((↑k : Int) - 8))), (3, .int (iI ((↑j : Int) - 8)))]) hx hb d_Bo_corners_108 rfl hl (by decide) rfl (fun ls hl => ?_)
              refine lv_iinc (v := iI (((↑j : Int) - 8) + 1)) (lv' := [(3, .int (iI (((↑j : Int) - 8) + 1))), (1, .int (nI ((sm (fun k => sm (coR (a (18 + 3 * b + 1)) ((↑k : Int) - 8)) 16) k + sm (coR (a (18 + 3 * b + 1)) ((↑k : Int) - 8)) j) + (cn (bt ((((((rwA (a (18 + 3 * b + 1)) ((↑j : Int) - 8) ((↑k : Int) - 8)) ||| (rwA (a (18 + 3 * b + 1)) (((↑j : Int) - 8) + 1) ((↑k : Int) - 8))) ||| (rwA (a (18 + 3 * b + 1)) ((↑j : Int) - 8) (((↑k : Int) - 8) + 1))) ||| (rwA (a (18 + 3 * b + 1)) (((↑j : Int) - 8) + 1) (((↑k : Int) - 8) + 1))) ||| (((((rwA (a (18 + 3 * b + 1)) ((↑j : Int) - 8) ((↑k : Int) - 8)) ||| (rwA (a (18 + 3 * b + 1)) (((↑j : Int) - 8) + 1) ((↑k : Int) - 8))) ||| (rwA (a (18 + 3 * b + 1)) ((↑j : Int) - 8) (((↑k : Int) - 8) + 1))) ||| (rwA (a (18 + 3 * b + 1)) (((↑j : Int) - 8) + 1) (((↑k : Int) - 8) + 1))) >>> (1 &&& 31))) &&& ((((((rwA (a (18 + 3 * b + 1)) ((↑j : Int) - 8) ((↑k : Int) - 8)) &&& (rwA (a (18 + 3 * b + 1)) (((↑j : Int) - 8) + 1) ((↑k : Int) - 8))) &&& (rwA (a (18 + 3 * b + 1)) ((↑j : Int) - 8) (((↑k : Int) - 8) + 1))) &&& (rwA (a (18 + 3 * b + 1)) (((↑j : Int) - 8) + 1) (((↑k : Int) - 8) + 1))) &&& (((((rwA (a (18 + 3 * b + 1)) ((↑j : Int) - 8) ((↑k : Int) - 8)) &&& (rwA (a (18 + 3 * b + 1)) (((↑j : Int) - 8) + 1) ((↑k : Int) - 8))) &&& (rwA (a (18 + 3 * b + 1)) ((↑j : Int) - 8) (((↑k : Int) - 8) + 1))) &&& (rwA (a (18 + 3 * b + 1)) (((↑j : Int) - 8) + 1) (((↑k : Int) - 8) + 1))) >>> (1 &&& 31))) ^^^ (-1)))) 16)))), (9, .int ((((rwA (a (18 + 3 * b + 1)) ((↑j : Int) - 8) ((↑k : Int) - 8)) &&& (rwA (a (18 + 3 * b + 1)) (((↑j : Int) - 8) + 1) ((↑k : Int) - 8))) &&& (rwA (a (18 + 3 * b + 1)) ((↑j : Int) - 8) (((↑k : Int) - 8) + 1))) &&& (rwA (a (18 + 3 * b + 1)) (((↑j : Int) - 8) + 1) (((↑k : Int) - 8) + 1)))), (8, .int ((((rwA (a (18 + 3 * b + 1)) ((↑j : Int) - 8) ((↑k : Int) - 8)) ||| (rwA (a (18 + 3 * b + 1)) (((↑j : Int) - 8) + 1) ((↑k : Int) - 8))) ||| (rwA (a (18 + 3 * b + 1)) ((↑j : Int) - 8) (((↑k : Int) - 8) + 1))) ||| (rwA (a (18 + 3 * b + 1)) (((↑j : Int) - 8) + 1) (((↑k : Int) - 8) + 1)))), (7, .int (rwA (a (18 + 3 * b + 1)) (((↑j : Int) - 8) + 1) (((↑k : Int) - 8) + 1))), (6, .int (rwA (a (18 + 3 * b + 1)) ((↑j : Int) - 8) (((↑k : Int) - 8) + 1))), (5, .int (rwA (a (18 + 3 * b + 1)) (((↑j : Int) - 8) + 1) ((↑k : Int) - 8))), (4, .int (rwA (a (18 + 3 * b + 1)) ((↑j : Int) - 8) ((↑k : Int) - 8))), (0, .ref (X.1 (18 + 3 * b))), (2, .int (iI ((↑k : Int) - 8)))]) hx hb d_Bo_corners_109 hl (k := 9) rfl (iI_add ((↑j : Int) - 8) 1) (by decide) rfl (fun ls hl => ?_)
              refine lv_goto (tgt := 14) hx hb d_Bo_corners_112 (by decide) ?_
              exact ih14 (j + 1) _ (by omega) (by omega) (by rw [← iI_n8, sm_s1]; exact lv_sub hl [8, 1, 9, 0] rfl)
        exact hL14 _ 0 _ (Nat.lt_succ_self _) (by omega) (by rw [show iI ((↑(0 : Nat) : Int) - 8) = -8 by decide]; exact lv_sub hl [1, 2, 3, 0] rfl)
  exact hL5 _ 0 _ (Nat.lt_succ_self _) (by omega) (by rw [show iI ((↑(0 : Nat) : Int) - 8) = -8 by decide]; exact lv_sub hl [2, 1, 0] rfl)
set_option maxHeartbeats 1000000 in
set_option maxRecDepth 100000 in
theorem c_Bo_thinPoints (l : Launch) (D : va_G) (cT : Nat → ClassId) (X : CX) (I : Nat → Int32) (a : Nat → Nat → Int32) (b : Nat) (way : Int32)  (hbn : b < X.2.2.2.1) (hlo : ∀ q, q < 225 → lo16 (a (18 + 3 * b + 1) q)) : RDi l D cT (cw cT X I a) y_Bo_thinPoints b_Bo_thinPoints 7 (some .int) 2 45 [.ref (X.1 (18 + 3 * b)), .int way] (fun r => r = nI (sm (fun k => sm (thR (a (18 + 3 * b + 1)) way ((↑k : Int) - 7)) 15) 15)) := by
  refine rd_enti (own := R_Bo) (by decide) rfl (Nat.le_of_ble_eq_true rfl) ?_
  intro p e s m args below meth c Q hC hK hP hret ls hl
  have hx := hC.1
  have hb := hC.2.1
  replace hl : lv_has ls 7 [(0, .ref (X.1 (18 + 3 * b))), (1, .int way)] := hl
  refine lv_iconst (v := 0) hx hb d_Bo_thinPoints_0 (by decide) ?_
  refine lv_istore_n (lv' := [(2, .int 0), (0, .ref (X.1 (18 + 3 * b))), (1, .int way)]) hx hb d_Bo_thinPoints_1 rfl hl (by decide) rfl (fun ls hl => ?_)
  refine lv_bipush (v := (-7)) hx hb d_Bo_thinPoints_2 (by decide) ?_
  refine lv_istore_n (lv' := [(3, .int (-7)), (2, .int 0), (0, .ref (X.1 (18 + 3 * b))), (1, .int way)]) hx hb d_Bo_thinPoints_4 rfl hl (by decide) rfl (fun ls hl => ?_)
  have hL5 : ∀ (nn : Nat) (k : Nat) (ls : Array Slot), 15 - k < nn → (k ≤ 15) → lv_has ls 7 [(0, .ref (X.1 (18 + 3 * b))), (1, .int way), (2, .int (nI (sm (fun k => sm (thR (a (18 + 3 * b + 1)) way ((↑k : Int) - 7)) 15) k))), (3, .int (iI ((↑k : Int) - 7)))] → W p l e (rmOf 2 45) s m args below meth c s.heap [] 0 0 Q (F0 m 5 ls []) := by
    intro nn
    induction nn with
    | zero =>
      intro k ls hmeas5 hk hl
      exact absurd hmeas5 (Nat.not_lt_zero _)
    | succ nn ih5 =>
      intro k ls hmeas5 hk hl
      refine lv_iload_n hx hb d_Bo_thinPoints_5 rfl (lv_at hl 3 rfl) ?_
      refine lv_bipush (v := 7) hx hb d_Bo_thinPoints_6 (by decide) ?_
      refine zc_gt hx hb ((↑k : Int) - 7) 7 (by omega) (by omega) (by omega) (by omega) d_Bo_thinPoints_8 (tgt := 120) (by decide) (fun h1 => ?_) (fun h1 => ?_)
      · skip
        refine lv_iload_n hx hb d_Bo_thinPoints_120 rfl (lv_at hl 2 rfl) ?_
        refine hret _ _ _ d_Bo_thinPoints_121 ?_
        obtain rfl : k = 15 := by omega
        rfl
      · skip
        refine lv_bipush (v := (-7)) hx hb d_Bo_thinPoints_11 (by decide) ?_
        refine lv_istore (lv' := [(4, .int (-7)), (0, .ref (X.1 (18 + 3 * b))), (1, .int way), (2, .int (nI (sm (fun k => sm (thR (a (18 + 3 * b + 1)) way ((↑k : Int) - 7)) 15) k))), (3, .int (iI ((↑k : Int) - 7)))]) hx hb d_Bo_thinPoints_13 hl (by decide) rfl (fun ls hl => ?_)
        have hL15 : ∀ (nn : Nat) (j : Nat) (ls : Array Slot), 15 - j < nn → (j ≤ 15) → lv_has ls 7 [(0, .ref (X.1 (18 + 3 * b))), (1, .int way), (2, .int (nI (sm (fun k => sm (thR (a (18 + 3 * b + 1)) way ((↑k : Int) - 7)) 15) k + sm (thR (a (18 + 3 * b + 1)) way ((↑k : Int) - 7)) j))), (3, .int (iI ((↑k : Int) - 7))), (4, .int (iI ((↑j : Int) - 7)))] → W p l e (rmOf 2 45) s m args below meth c s.heap [] 0 0 Q (F0 m 15 ls []) := by
          intro nn
          induction nn with
          | zero =>
            intro j ls hmeas15 hj hl
            exact absurd hmeas15 (Nat.not_lt_zero _)
          | succ nn ih15 =>
            intro j ls hmeas15 hj hl
            refine lv_iload hx hb d_Bo_thinPoints_15 (lv_at hl 4 rfl) ?_
            refine lv_bipush (v := 7) hx hb d_Bo_thinPoints_17 (by decide) ?_
            refine zc_gt hx hb ((↑j : Int) - 7) 7 (by omega) (by omega) (by omega) (by omega) d_Bo_thinPoints_19 (tgt := 114) (by decide) (fun h2 => ?_) (fun h2 => ?_)
            · skip
              refine lv_iinc (v := iI (((↑k : Int) - 7) + 1)) (lv' := [(3, .int (iI (((↑k : Int) - 7) + 1))), (0, .ref (X.1 (18 + 3 * b))), (1, .int way), (2, .int (nI (sm (fun k => sm (thR (a (18 + 3 * b + 1)) way ((↑k : Int) - 7)) 15) k + sm (thR (a (18 + 3 * b + 1)) way ((↑k : Int) - 7)) j))), (4, .int (iI ((↑j : Int) - 7)))]) hx hb d_Bo_thinPoints_114 hl (k := 3) rfl (iI_add ((↑k : Int) - 7) 1) (by decide) rfl (fun ls hl => ?_)
              refine lv_goto (tgt := 5) hx hb d_Bo_thinPoints_117 (by decide) ?_
              obtain rfl : j = 15 := by omega
              exact ih5 (k + 1) _ (by omega) (by omega) (by rw [← iI_n7]; exact lv_sub hl [1, 2, 3, 0] rfl)
            · skip
              refine lv_aload_n hx hb d_Bo_thinPoints_22 rfl (lv_at hl 0 rfl) ?_
              refine lv_iload hx hb d_Bo_thinPoints_23 (lv_at hl 4 rfl) ?_
              refine lv_iload_n hx hb d_Bo_thinPoints_25 rfl (lv_at hl 3 rfl) ?_
              refine rd_call (np := 2) hC hK hP (cw_he (by omega) (cE_B b)) rfl (c_Bo_rowAt l D cT X I a b ((↑j : Int) - 7) ((↑k : Int) - 7) hbn (by omega) (by omega) (by omega) (by omega)) rfl ⟨wl_Bo_51, wi_Bo_rowAt, ws_Bo_rowAt, wc_Bo_rowAt, wn_Bo⟩ ⟨by decide, by decide, by decide +kernel⟩ ⟨Nat.le_of_ble_eq_true rfl, Nat.le_of_ble_eq_true rfl⟩ hl.1 rfl (rest := []) rfl (Nat.le_of_ble_eq_true rfl) ⟨Nat.zero_le _, Nat.zero_le _⟩ d_Bo_thinPoints_26 (fun rr hrr => ?_)
              subst hrr
              refine lv_istore (lv' := [(5, .int (rwA (a (18 + 3 * b + 1)) ((↑j : Int) - 7) ((↑k : Int) - 7))), (0, .ref (X.1 (18 + 3 * b))), (1, .int way), (2, .int (nI (sm (fun k => sm (thR (a (18 + 3 * b + 1)) way ((↑k : Int) - 7)) 15) k + sm (thR (a (18 + 3 * b + 1)) way ((↑k : Int) - 7)) j))), (3, .int (iI ((↑k : Int) - 7))), (4, .int (iI ((↑j : Int) - 7)))]) hx hb d_Bo_thinPoints_29 hl (by decide) rfl (fun ls hl => ?_)
              refine lv_iload_n hx hb d_Bo_thinPoints_31 rfl (lv_at hl 2 rfl) ?_
              have hJ3 : ∀ (ls : Array Slot), lv_has ls 7 [(0, .ref (X.1 (18 + 3 * b))), (1, .int way), (2, .int (nI (sm (fun k => sm (thR (a (18 + 3 * b + 1)) way ((↑k : Int) - 7)) 15) k + sm (thR (a (18 + 3 * b + 1)) way ((↑k : Int) - 7)) j))), (3, .int (iI ((↑k : Int) - 7))), (4, .int (iI ((↑j : Int) - 7))), (5, .int (rwA (a (18 + 3 * b + 1)) ((↑j : Int) - 7) ((↑k : Int) - 7)))] → W p l e (rmOf 2 45) s m args below meth c s.heap [] 0 0 Q (F0 m 93 ls [.int (if way = 0 then ((rwA (a (18 + 3 * b + 1)) ((↑j : Int) - 7) ((↑k : Int) - 7)) <<< (1 &&& 31)) ||| ((rwA (a (18 + 3 * b + 1)) ((↑j : Int) - 7) ((↑k : Int) - 7)) >>> (1 &&& 31)) else if way = 1 then (rwA (a (18 + 3 * b + 1)) (((↑j : Int) - 7) - 1) ((↑k : Int) - 7)) ||| (rwA (a (18 + 3 * b + 1)) (((↑j : Int) - 7) + 1) ((↑k : Int) - 7)) else (rwA (a (18 + 3 * b + 1)) ((↑j : Int) - 7) (((↑k : Int) - 7) - 1)) ||| (rwA (a (18 + 3 * b + 1)) ((↑j : Int) - 7) (((↑k : Int) - 7) + 1)))]) := ?_
              · skip
                refine lv_if_ne (tgt := 47) hx hb d_Bo_thinPoints_32 (by decide) (fun h4 => ?_) (fun h4 => ?_)
                · skip
                  refine lv_iload_n hx hb d_Bo_thinPoints_47 rfl (lv_at hl 2 rfl) ?_
                  refine lv_iconst (v := 1) hx hb d_Bo_thinPoints_48 (by decide) ?_
                  refine lv_icmp_ne (tgt := 74) hx hb d_Bo_thinPoints_49 (by decide) (fun h5 => ?_) (fun h5 => ?_)
                  · skip
                    refine lv_aload_n hx hb d_Bo_thinPoints_74 rfl (lv_at hl 1 rfl) ?_
                    refine lv_iload hx hb d_Bo_thinPoints_75 (lv_at hl 5 rfl) ?_
                    refine lv_iload_n hx hb d_Bo_thinPoints_77 rfl (lv_at hl 4 rfl) ?_
                    refine lv_iconst (v := 1) hx hb d_Bo_thinPoints_78 (by decide) ?_
                    refine lv_isub hx hb d_Bo_thinPoints_79 ?_
                    refine topi_eq (iI_sub ((↑k : Int) - 7) 1) ?_
                    refine rd_call (np := 2) hC hK hP (cw_he (by omega) (cE_B b)) rfl (c_Bo_rowAt l D cT X I a b ((↑j : Int) - 7) (((↑k : Int) - 7) - 1) hbn (by omega) (by omega) (by omega) (by omega)) rfl ⟨wl_Bo_51, wi_Bo_rowAt, ws_Bo_rowAt, wc_Bo_rowAt, wn_Bo⟩ ⟨by decide, by decide, by decide +kernel⟩ ⟨Nat.le_of_ble_eq_true rfl, Nat.le_of_ble_eq_true rfl⟩ hl.1 rfl (rest := []) rfl (Nat.le_of_ble_eq_true rfl) ⟨Nat.zero_le _, Nat.zero_le _⟩ d_Bo_thinPoints_80 (fun rr hrr => ?_)
                    subst hrr
                    refine lv_aload_n hx hb d_Bo_thinPoints_83 rfl (lv_at hl 1 rfl) ?_
                    refine lv_iload hx hb d_Bo_thinPoints_84 (lv_at hl 5 rfl) ?_
                    refine lv_iload_n hx hb d_Bo_thinPoints_86 rfl (lv_at hl 4 rfl) ?_
                    refine lv_iconst (v := 1) hx hb d_Bo_thinPoints_87 (by decide) ?_
                    refine lv_iadd hx hb d_Bo_thinPoints_88 ?_
                    refine topi_eq (iI_add ((↑k : Int) - 7) 1) ?_
                    refine rd_call (np := 2) hC hK hP (cw_he (by omega) (cE_B b)) rfl (c_Bo_rowAt l D cT X I a b ((↑j : Int) - 7) (((↑k : Int) - 7) + 1) hbn (by omega) (by omega) (by omega) (by omega)) rfl ⟨wl_Bo_51, wi_Bo_rowAt, ws_Bo_rowAt, wc_Bo_rowAt, wn_Bo⟩ ⟨by decide, by decide, by decide +kernel⟩ ⟨Nat.le_of_ble_eq_true rfl, Nat.le_of_ble_eq_true rfl⟩ hl.1 rfl (rest := [.int (rwA (a (18 + 3 * b + 1)) ((↑j : Int) - 7) (((↑k : Int) - 7) - 1))]) rfl (Nat.le_of_ble_eq_true rfl) ⟨Nat.zero_le _, Nat.zero_le _⟩ d_Bo_thinPoints_89 (fun rr hrr => ?_)
                    subst hrr
                    refine lv_ior hx hb d_Bo_thinPoints_92 ?_
                    refine topi_eq (show ((rwA (a (18 + 3 * b + 1)) ((↑j : Int) - 7) (((↑k : Int) - 7) - 1)) ||| (rwA (a (18 + 3 * b + 1)) ((↑j : Int) - 7) (((↑k : Int) - 7) + 1)) : Int32) = if way = 0 then ((rwA (a (18 + 3 * b + 1)) ((↑j : Int) - 7) ((↑k : Int) - 7)) <<< (1 &&& 31)) ||| ((rwA (a (18 + 3 * b + 1)) ((↑j : Int) - 7) ((↑k : Int) - 7)) >>> (1 &&& 31)) else if way = 1 then (rwA (a (18 + 3 * b + 1)) (((↑j : Int) - 7) - 1) ((↑k : Int) - 7)) ||| (rwA (a (18 + 3 * b + 1)) (((↑j : Int) - 7) + 1) ((↑k : Int) - 7)) else (rwA (a (18 + 3 * b + 1)) ((↑j : Int) - 7) (((↑k : Int) - 7) - 1)) ||| (rwA (a (18 + 3 * b + 1)) ((↑j : Int) - 7) (((↑k : Int) - 7) + 1)) by first | rfl | exact (bI_t (by assumption)).symm | exact (bI_f (by assumption)).symm | exact (bI_f (fun z => z (by assumption))).symm | (rw [if_neg h4, if_neg h5]; done) | (rw [if_neg h4, if_neg h5]; rfl) | (simp only [if_neg h4, if_neg h5]; done) | (simp only [if_neg h4, if_neg h5]; rfl)) ?_
                    exact hJ3 _ (by first | exact lv_sub hl [1, 2, 3, 4, 5, 0] rfl | (simp only [if_neg h4, if_neg h5]; exact lv_sub hl [1, 2, 3, 4, 5, 0] rfl))
                  · skip
                    refine lv_aload_n hx hb d_Bo_thinPoints_52 rfl (lv_at hl 1 rfl) ?_
                    refine lv_iload hx hb d_Bo_thinPoints_53 (lv_at hl 5 rfl) ?_
                    refine lv_iconst (v := 1) hx hb d_Bo_thinPoints_55 (by decide) ?_
                    refine lv_isub hx hb d_Bo_thinPoints_56 ?_
                    refine topi_eq (iI_sub ((↑j : Int) - 7) 1) ?_
                    refine lv_iload_n hx hb d_Bo_thinPoints_57 rfl (lv_at hl 4 rfl) ?_
                    refine rd_call (np := 2) hC hK hP (cw_he (by omega) (cE_B b)) rfl (c_Bo_rowAt l D cT X I a b (((↑j : Int) - 7) - 1) ((↑k : Int) - 7) hbn (by omega) (by omega) (by omega) (by omega)) rfl ⟨wl_Bo_51, wi_Bo_rowAt, ws_Bo_rowAt, wc_Bo_rowAt, wn_Bo⟩ ⟨by decide, by decide, by decide +kernel⟩ ⟨Nat.le_of_ble_eq_true rfl, Nat.le_of_ble_eq_true rfl⟩ hl.1 rfl (rest := []) rfl (Nat.le_of_ble_eq_true rfl) ⟨Nat.zero_le _, Nat.zero_le _⟩ d_Bo_thinPoints_58 (fun rr hrr => ?_)
                    subst hrr
                    refine lv_aload_n hx hb d_Bo_thinPoints_61 rfl (lv_at hl 1 rfl) ?_
                    refine lv_iload hx hb d_Bo_thinPoints_62 (lv_at hl 5 rfl) ?_
                    refine lv_iconst (v := 1) hx hb d_Bo_thinPoints_64 (by decide) ?_
                    refine lv_iadd hx hb d_Bo_thinPoints_65 ?_
                    refine topi_eq (iI_add ((↑j : Int) - 7) 1) ?_
                    refine lv_iload_n hx hb d_Bo_thinPoints_66 rfl (lv_at hl 4 rfl) ?_
                    refine rd_call (np := 2) hC hK hP (cw_he (by omega) (cE_B b)) rfl (c_Bo_rowAt l D cT X I a b (((↑j : Int) - 7) + 1) ((↑k : Int) - 7) hbn (by omega) (by omega) (by omega) (by omega)) rfl ⟨wl_Bo_51, wi_Bo_rowAt, ws_Bo_rowAt, wc_Bo_rowAt, wn_Bo⟩ ⟨by decide, by decide, by decide +kernel⟩ ⟨Nat.le_of_ble_eq_true rfl, Nat.le_of_ble_eq_true rfl⟩ hl.1 rfl (rest := [.int (rwA (a (18 + 3 * b + 1)) (((↑j : Int) - 7) - 1) ((↑k : Int) - 7))]) rfl (Nat.le_of_ble_eq_true rfl) ⟨Nat.zero_le _, Nat.zero_le _⟩ d_Bo_thinPoints_67 (fun rr hrr => ?_)
                    subst hrr
                    refine lv_ior hx hb d_Bo_thinPoints_70 ?_
                    refine lv_goto (tgt := 93) hx hb d_Bo_thinPoints_71 (by decide) ?_
                    refine topi_eq (show ((rwA (a (18 + 3 * b + 1)) (((↑j : Int) - 7) - 1) ((↑k : Int) - 7)) ||| (rwA (a (18 + 3 * b + 1)) (((↑j : Int) - 7) + 1) ((↑k : Int) - 7)) : Int32) = if way = 0 then ((rwA (a (18 + 3 * b + 1)) ((↑j : Int) - 7) ((↑k : Int) - 7)) <<< (1 &&& 31)) ||| ((rwA (a (18 + 3 * b + 1)) ((↑j : Int) - 7) ((↑k : Int) - 7)) >>> (1 &&& 31)) else if way = 1 then (rwA (a (18 + 3 * b + 1)) (((↑j : Int) - 7) - 1) ((↑k : Int) - 7)) ||| (rwA (a (18 + 3 * b + 1)) (((↑j : Int) - 7) + 1) ((↑k : Int) - 7)) else (rwA (a (18 + 3 * b + 1)) ((↑j : Int) - 7) (((↑k : Int) - 7) - 1)) ||| (rwA (a (18 + 3 * b + 1)) ((↑j : Int) - 7) (((↑k : Int) - 7) + 1)) by first | rfl | exact (bI_t (by assumption)).symm | exact (bI_f (by assumption)).symm | exact (bI_f (fun z => z (by assumption))).symm | (rw [if_neg h4, if_pos h5]; done) | (rw [if_neg h4, if_pos h5]; rfl) | (simp only [if_neg h4, if_pos h5]; done) | (simp only [if_neg h4, if_pos h5]; rfl)) ?_
                    exact hJ3 _ (by first | exact lv_sub hl [1, 2, 3, 4, 5, 0] rfl | (simp only [if_neg h4, if_pos h5]; exact lv_sub hl [1, 2, 3, 4, 5, 0] rfl))
                · skip
                  refine lv_iload hx hb d_Bo_thinPoints_35 (lv_at hl 0 rfl) ?_
                  refine lv_iconst (v := 1) hx hb d_Bo_thinPoints_37 (by decide) ?_
                  refine lv_ishl hx hb d_Bo_thinPoints_38 ?_
                  refine lv_iload hx hb d_Bo_thinPoints_39 (lv_at hl 0 rfl) ?_
                  refine lv_iconst (v := 1) hx hb d_Bo_thinPoints_41 (by decide) ?_
                  refine lv_ishr hx hb d_Bo_thinPoints_42 ?_
                  refine lv_ior hx hb d_Bo_thinPoints_43 ?_
                  refine lv_goto (tgt := 93) hx hb d_Bo_thinPoints_44 (by decide) ?_
                  refine topi_eq (show (((rwA (a (18 + 3 * b + 1)) ((↑j : Int) - 7) ((↑k : Int) - 7)) <<< (1 &&& 31)) ||| ((rwA (a (18 + 3 * b + 1)) ((↑j : Int) - 7) ((↑k : Int) - 7)) >>> (1 &&& 31)) : Int32) = if way = 0 then ((rwA (a (18 + 3 * b + 1)) ((↑j : Int) - 7) ((↑k : Int) - 7)) <<< (1 &&& 31)) ||| ((rwA (a (18 + 3 * b + 1)) ((↑j : Int) - 7) ((↑k : Int) - 7)) >>> (1 &&& 31)) else if way = 1 then (rwA (a (18 + 3 * b + 1)) (((↑j : Int) - 7) - 1) ((↑k : Int) - 7)) ||| (rwA (a (18 + 3 * b + 1)) (((↑j : Int) - 7) + 1) ((↑k : Int) - 7)) else (rwA (a (18 + 3 * b + 1)) ((↑j : Int) - 7) (((↑k : Int) - 7) - 1)) ||| (rwA (a (18 + 3 * b + 1)) ((↑j : Int) - 7) (((↑k : Int) - 7) + 1)) by first | rfl | exact (bI_t (by assumption)).symm | exact (bI_f (by assumption)).symm | exact (bI_f (fun z => z (by assumption))).symm | (rw [if_pos h4]; done) | (rw [if_pos h4]; rfl) | (simp only [if_pos h4]; done) | (simp only [if_pos h4]; rfl)) ?_
                  exact hJ3 _ (by first | exact lv_sub hl [1, 2, 3, 4, 5, 0] rfl | (simp only [if_pos h4]; exact lv_sub hl [1, 2, 3, 4, 5, 0] rfl))
              intro ls hl
              refine lv_istore (lv' := [(6, .int (if way = 0 then ((rwA (a (18 + 3 * b + 1)) ((↑j : Int) - 7) ((↑k : Int) - 7)) <<< (1 &&& 31)) ||| ((rwA (a (18 + 3 * b + 1)) ((↑j : Int) - 7) ((↑k : Int) - 7)) >>> (1 &&& 31)) else if way = 1 then (rwA (a (18 + 3 * b + 1)) (((↑j : Int) - 7) - 1) ((↑k : Int) - 7)) ||| (rwA (a (18 + 3 * b + 1)) (((↑j : Int) - 7) + 1) ((↑k : Int) - 7)) else (rwA (a (18 + 3 * b + 1)) ((↑j : Int) - 7) (((↑k : Int) - 7) - 1)) ||| (rwA (a (18 + 3 * b + 1)) ((↑j : Int) - 7) (((↑k : Int) - 7) + 1)))), (0, .ref (X.1 (18 + 3 * b))), (1, .int way), (2, .int (nI (sm (fun k => sm (thR (a (18 + 3 * b + 1)) way ((↑k : Int) - 7)) 15) k + sm (thR (a (18 + 3 * b + 1)) way ((↑k : Int) - 7)) j))), (3, .int (iI ((↑k : Int) - 7))), (4, .int (iI ((↑j : Int) - 7))), (5, .int (rwA (a (18 + 3 * b + 1)) ((↑j : Int) - 7) ((↑k : Int) - 7)))]) hx hb d_Bo_thinPoints_93 hl (by decide) rfl (fun ls hl => ?_)
              refine lv_iload_n hx hb d_Bo_thinPoints_95 rfl (lv_at hl 3 rfl) ?_
              refine lv_iload hx hb d_Bo_thinPoints_96 (lv_at hl 6 rfl) ?_
              refine lv_iload hx hb d_Bo_thinPoints_98 (lv_at hl 0 rfl) ?_
              refine lv_iconst (v := (-1)) hx hb d_Bo_thinPoints_100 (by decide) ?_
              refine lv_ixor hx hb d_Bo_thinPoints_101 ?_
              refine lv_iand hx hb d_Bo_thinPoints_102 ?_
              refine st_calli (np := 1) hC (c_In_bitCount l ((rwA (a (18 + 3 * b + 1)) ((↑j : Int) - 7) ((↑k : Int) - 7)) &&& ((if way = 0 then ((rwA (a (18 + 3 * b + 1)) ((↑j : Int) - 7) ((↑k : Int) - 7)) <<< (1 &&& 31)) ||| ((rwA (a (18 + 3 * b + 1)) ((↑j : Int) - 7) ((↑k : Int) - 7)) >>> (1 &&& 31)) else if way = 1 then (rwA (a (18 + 3 * b + 1)) (((↑j : Int) - 7) - 1) ((↑k : Int) - 7)) ||| (rwA (a (18 + 3 * b + 1)) (((↑j : Int) - 7) + 1) ((↑k : Int) - 7)) else (rwA (a (18 + 3 * b + 1)) ((↑j : Int) - 7) (((↑k : Int) - 7) - 1)) ||| (rwA (a (18 + 3 * b + 1)) ((↑j : Int) - 7) (((↑k : Int) - 7) + 1))) ^^^ (-1))) (lo_and (lo_rwA hlo))) ⟨wl_Bo_54, wt_In_bitCount, wc_In_bitCount, wn_In⟩ ⟨by decide, by decide, by decide +kernel⟩ ⟨Nat.le_of_ble_eq_true rfl, Nat.le_of_ble_eq_true rfl⟩ hl.1 rfl (rest := [.int (nI (sm (fun k => sm (thR (a (18 + 3 * b + 1)) way ((↑k : Int) - 7)) 15) k + sm (thR (a (18 + 3 * b + 1)) way ((↑k : Int) - 7)) j))]) rfl (Nat.le_of_ble_eq_true rfl) ⟨Nat.zero_le _, Nat.zero_le _⟩ d_Bo_thinPoints_103 (fun rr hrr => ?_)
              subst hrr
              refine lv_iadd hx hb d_Bo_thinPoints_106 ?_
              refine topi_eq (nI_add (sm (fun k => sm (thR (a (18 + 3 * b + 1)) way ((↑k : Int) - 7)) 15) k + sm (thR (a (18 + 3 * b + 1)) way ((↑k : Int) - 7)) j) (cn (bt ((rwA (a (18 + 3 * b + 1)) ((↑j : Int) - 7) ((↑k : Int) - 7)) &&& ((if way = 0 then ((rwA (a (18 + 3 * b + 1)) ((↑j : Int) - 7) ((↑k : Int) - 7)) <<< (1 &&& 31)) ||| ((rwA (a (18 + 3 * b + 1)) ((↑j : Int) - 7) ((↑k : Int) - 7)) >>> (1 &&& 31)) else if way = 1 then (rwA (a (18 + 3 * b + 1)) (((↑j : Int) - 7) - 1) ((↑k : Int) - 7)) ||| (rwA (a (18 + 3 * b + 1)) (((↑j : Int) - 7) + 1) ((↑k : Int) - 7)) else (rwA (a (18 + 3 * b + 1)) ((↑j : Int) - 7) (((↑k : Int) - 7) - 1)) ||| (rwA (a (18 + 3 * b + 1)) ((↑j : Int) - 7) (((↑k : Int) - 7) + 1))) ^^^ (-1)))) 16)) ?_
              refine lv_istore_n (lv' := [(2, .int (nI ((sm (fun k => sm (thR (a (18 + 3 * b + 1)) way ((↑k : Int) - 7)) 15) k + sm (thR (a (18 + 3 * b + 1)) way ((↑k : Int) - 7)) j) + (cn (bt ((rwA (a (18 + 3 * b + 1)) ((↑j : Int) - 7) ((↑k : Int) - 7)) &&& ((if way = 0 then ((rwA (a (18 + 3 * b + 1)) ((↑j : Int) - 7) ((↑k : Int) - 7)) <<< (1 &&& 31)) ||| ((rwA (a (18 + 3 * b + 1)) ((↑j : Int) - 7) ((↑k : Int) - 7)) >>> (1 &&& 31)) else if way = 1 then (rwA (a (18 + 3 * b + 1)) (((↑j : Int) - 7) - 1) ((↑k : Int) - 7)) ||| (rwA (a (18 + 3 * b + 1)) (((↑j : Int) - 7) + 1) ((↑k : Int) - 7)) else (rwA (a (18 + 3 * b + 1)) ((↑j : Int) - 7) (((↑k : Int) - 7) - 1)) ||| (rwA (a (18 + 3 * b + 1)) ((↑j : Int) - 7) (((↑k : Int) - 7) + 1))) ^^^ (-1)))) 16)))), (6, .int (if way = 0 then ((rwA (a (18 + 3 * b + 1)) ((↑j : Int) - 7) ((↑k : Int) - 7)) <<< (1 &&& 31)) ||| ((rwA (a (18 + 3 * b + 1)) ((↑j : Int) - 7) ((↑k : Int) - 7)) >>> (1 &&& 31)) else if way = 1 then (rwA (a (18 + 3 * b + 1)) (((↑j : Int) - 7) - 1) ((↑k : Int) - 7)) ||| (rwA (a (18 + 3 * b + 1)) (((↑j : Int) - 7) + 1) ((↑k : Int) - 7)) else (rwA (a (18 + 3 * b + 1)) ((↑j : Int) - 7) (((↑k : Int) - 7) - 1)) ||| (rwA (a (18 + 3 * b + 1)) ((↑j : Int) - 7) (((↑k : Int) - 7) + 1)))), (0, .ref (X.1 (18 + 3 * b))), (1, .int way), (3, .int (iI ((↑k : Int) - 7))), (4, .int (iI ((↑j : Int) - 7))), (5, .int (rwA (a (18 + 3 * b + 1)) ((↑j : Int) - 7) ((↑k : Int) - 7)))]) hx hb d_Bo_thinPoints_107 rfl hl (by decide) rfl (fun ls hl => ?_)
              refine lv_iinc (v := iI (((↑j : Int) - 7) + 1)) (lv' := [(4, .int (iI (((↑j : Int) - 7) + 1))), (2, .int (nI ((sm (fun k => sm (thR (a (18 + 3 * b + 1)) way ((↑k : Int) - 7)) 15) k + sm (thR (a (18 + 3 * b + 1)) way ((↑k : Int) - 7)) j) + (cn (bt ((rwA (a (18 + 3 * b + 1)) ((↑j : Int) - 7) ((↑k : Int) - 7)) &&& ((if way = 0 then ((rwA (a (18 + 3 * b + 1)) ((↑j : Int) - 7) ((↑k : Int) - 7)) <<< (1 &&& 31)) ||| ((rwA (a (18 + 3 * b + 1)) ((↑j : Int) - 7) ((↑k : Int) - 7)) >>> (1 &&& 31)) else if way = 1 then (rwA (a (18 + 3 * b + 1)) (((↑j : Int) - 7) - 1) ((↑k : Int) - 7)) ||| (rwA (a (18 + 3 * b + 1)) (((↑j : Int) - 7) + 1) ((↑k : Int) - 7)) else (rwA (a (18 + 3 * b + 1)) ((↑j : Int) - 7) (((↑k : Int) - 7) - 1)) ||| (rwA (a (18 + 3 * b + 1)) ((↑j : Int) - 7) (((↑k : Int) - 7) + 1))) ^^^ (-1)))) 16)))), (6, .int (if way = 0 then ((rwA (a (18 + 3 * b + 1)) ((↑j : Int) - 7) ((↑k : Int) - 7)) <<< (1 &&& 31)) ||| ((rwA (a (18 + 3 * b + 1)) ((↑j : Int) - 7) ((↑k : Int) - 7)) >>> (1 &&& 31)) else if way = 1 then (rwA (a (18 + 3 * b + 1)) (((↑j : Int) - 7) - 1) ((↑k : Int) - 7)) ||| (rwA (a (18 + 3 * b + 1)) (((↑j : Int) - 7) + 1) ((↑k : Int) - 7)) else (rwA (a (18 + 3 * b + 1)) ((↑j : Int) - 7) (((↑k : Int) - 7) - 1)) ||| (rwA (a (18 + 3 * b + 1)) ((↑j : Int) - 7) (((↑k : Int) - 7) + 1)))), (0, .ref (X.1 (18 + 3 * b))), (1, .int way), (3, .int (iI ((↑k : Int) - 7))), (5, .int (rwA (a (18 + 3 * b + 1)) ((↑j : Int) - 7) ((↑k : Int) - 7)))]) hx hb d_Bo_thinPoints_108 hl (k := 5) rfl (iI_add ((↑j : Int) - 7) 1) (by decide) rfl (fun ls hl => ?_)
              refine lv_goto (tgt := 15) hx hb d_Bo_thinPoints_111 (by decide) ?_
              exact ih15 (j + 1) _ (by omega) (by omega) (by rw [← iI_n7, sm_s1]; exact lv_sub hl [3, 4, 1, 5, 0] rfl)
        exact hL15 _ 0 _ (Nat.lt_succ_self _) (by omega) (by rw [show iI ((↑(0 : Nat) : Int) - 7) = -7 by decide]; exact lv_sub hl [1, 2, 3, 4, 0] rfl)
  exact hL5 _ 0 _ (Nat.lt_succ_self _) (by omega) (by rw [show iI ((↑(0 : Nat) : Int) - 7) = -7 by decide]; exact lv_sub hl [2, 3, 1, 0] rfl)
set_option maxHeartbeats 1000000 in
set_option maxRecDepth 100000 in
theorem c_Bo_shared (l : Launch) (D : va_G) (cT : Nat → ClassId) (X : CX) (I : Nat → Int32) (a : Nat → Nat → Int32) (b : Nat) (b2 : Nat)  (hbn : b < X.2.2.2.1) (hlo : ∀ q, q < 225 → lo16 (a (18 + 3 * b + 1) q)) (hbn2 : b2 < X.2.2.2.1) : RDi l D cT (cw cT X I a) y_Bo_shared b_Bo_shared 5 (some .int) 2 45 [.ref (X.1 (18 + 3 * b)), .ref (X.1 (18 + 3 * b2))] (fun r => r = nI (sm (fun k => sm (shR (a (18 + 3 * b + 1)) (a (18 + 3 * b2 + 1)) ((↑k : Int) - 7)) 15) 15)) := by
  refine rd_enti (own := R_Bo) (by decide) rfl (Nat.le_of_ble_eq_true rfl) ?_
  intro p e s m args below meth c Q hC hK hP hret ls hl
  have hx := hC.1
  have hb := hC.2.1
  replace hl : lv_has ls 5 [(0, .ref (X.1 (18 + 3 * b))), (1, .ref (X.1 (18 + 3 * b2)))] := hl
  refine lv_iconst (v := 0) hx hb d_Bo_shared_0 (by decide) ?_
  refine lv_istore_n (lv' := [(2, .int 0), (0, .ref (X.1 (18 + 3 * b))), (1, .ref (X.1 (18 + 3 * b2)))]) hx hb d_Bo_shared_1 rfl hl (by decide) rfl (fun ls hl => ?_)
  refine lv_bipush (v := (-7)) hx hb d_Bo_shared_2 (by decide) ?_
  refine lv_istore_n (lv' := [(3, .int (-7)), (2, .int 0), (0, .ref (X.1 (18 + 3 * b))), (1, .ref (X.1 (18 + 3 * b2)))]) hx hb d_Bo_shared_4 rfl hl (by decide) rfl (fun ls hl => ?_)
  have hL5 : ∀ (nn : Nat) (k : Nat) (ls : Array Slot), 15 - k < nn → (k ≤ 15) → lv_has ls 5 [(0, .ref (X.1 (18 + 3 * b))), (1, .ref (X.1 (18 + 3 * b2))), (2, .int (nI (sm (fun k => sm (shR (a (18 + 3 * b + 1)) (a (18 + 3 * b2 + 1)) ((↑k : Int) - 7)) 15) k))), (3, .int (iI ((↑k : Int) - 7)))] → W p l e (rmOf 2 45) s m args below meth c s.heap [] 0 0 Q (F0 m 5 ls []) := by
    intro nn
    induction nn with
    | zero =>
      intro k ls hmeas5 hk hl
      exact absurd hmeas5 (Nat.not_lt_zero _)
    | succ nn ih5 =>
      intro k ls hmeas5 hk hl
      refine lv_iload_n hx hb d_Bo_shared_5 rfl (lv_at hl 3 rfl) ?_
      refine lv_bipush (v := 7) hx hb d_Bo_shared_6 (by decide) ?_
      refine zc_gt hx hb ((↑k : Int) - 7) 7 (by omega) (by omega) (by omega) (by omega) d_Bo_shared_8 (tgt := 55) (by decide) (fun h1 => ?_) (fun h1 => ?_)
      · skip
        refine lv_iload_n hx hb d_Bo_shared_55 rfl (lv_at hl 2 rfl) ?_
        refine hret _ _ _ d_Bo_shared_56 ?_
        obtain rfl : k = 15 := by omega
        rfl
      · skip
        refine lv_bipush (v := (-7)) hx hb d_Bo_shared_11 (by decide) ?_
        refine lv_istore (lv' := [(4, .int (-7)), (0, .ref (X.1 (18 + 3 * b))), (1, .ref (X.1 (18 + 3 * b2))), (2, .int (nI (sm (fun k => sm (shR (a (18 + 3 * b + 1)) (a (18 + 3 * b2 + 1)) ((↑k : Int) - 7)) 15) k))), (3, .int (iI ((↑k : Int) - 7)))]) hx hb d_Bo_shared_13 hl (by decide) rfl (fun ls hl => ?_)
        have hL15 : ∀ (nn : Nat) (j : Nat) (ls : Array Slot), 15 - j < nn → (j ≤ 15) → lv_has ls 5 [(0, .ref (X.1 (18 + 3 * b))), (1, .ref (X.1 (18 + 3 * b2))), (2, .int (nI (sm (fun k => sm (shR (a (18 + 3 * b + 1)) (a (18 + 3 * b2 + 1)) ((↑k : Int) - 7)) 15) k + sm (shR (a (18 + 3 * b + 1)) (a (18 + 3 * b2 + 1)) ((↑k : Int) - 7)) j))), (3, .int (iI ((↑k : Int) - 7))), (4, .int (iI ((↑j : Int) - 7)))] → W p l e (rmOf 2 45) s m args below meth c s.heap [] 0 0 Q (F0 m 15 ls []) := by
          intro nn
          induction nn with
          | zero =>
            intro j ls hmeas15 hj hl
            exact absurd hmeas15 (Nat.not_lt_zero _)
          | succ nn ih15 =>
            intro j ls hmeas15 hj hl
            refine lv_iload hx hb d_Bo_shared_15 (lv_at hl 4 rfl) ?_
            refine lv_bipush (v := 7) hx hb d_Bo_shared_17 (by decide) ?_
            refine zc_gt hx hb ((↑j : Int) - 7) 7 (by omega) (by omega) (by omega) (by omega) d_Bo_shared_19 (tgt := 49) (by decide) (fun h2 => ?_) (fun h2 => ?_)
            · skip
              refine lv_iinc (v := iI (((↑k : Int) - 7) + 1)) (lv' := [(3, .int (iI (((↑k : Int) - 7) + 1))), (0, .ref (X.1 (18 + 3 * b))), (1, .ref (X.1 (18 + 3 * b2))), (2, .int (nI (sm (fun k => sm (shR (a (18 + 3 * b + 1)) (a (18 + 3 * b2 + 1)) ((↑k : Int) - 7)) 15) k + sm (shR (a (18 + 3 * b + 1)) (a (18 + 3 * b2 + 1)) ((↑k : Int) - 7)) j))), (4, .int (iI ((↑j : Int) - 7)))]) hx hb d_Bo_shared_49 hl (k := 3) rfl (iI_add ((↑k : Int) - 7) 1) (by decide) rfl (fun ls hl => ?_)
              refine lv_goto (tgt := 5) hx hb d_Bo_shared_52 (by decide) ?_
              obtain rfl : j = 15 := by omega
              exact ih5 (k + 1) _ (by omega) (by omega) (by rw [← iI_n7]; exact lv_sub hl [1, 2, 3, 0] rfl)
            · skip
              refine lv_iload_n hx hb d_Bo_shared_22 rfl (lv_at hl 2 rfl) ?_
              refine lv_aload_n hx hb d_Bo_shared_23 rfl (lv_at hl 0 rfl) ?_
              refine lv_iload hx hb d_Bo_shared_24 (lv_at hl 4 rfl) ?_
              refine lv_iload_n hx hb d_Bo_shared_26 rfl (lv_at hl 3 rfl) ?_
              refine rd_call (np := 2) hC hK hP (cw_he (by omega) (cE_B b)) rfl (c_Bo_rowAt l D cT X I a b ((↑j : Int) - 7) ((↑k : Int) - 7) hbn (by omega) (by omega) (by omega) (by omega)) rfl ⟨wl_Bo_51, wi_Bo_rowAt, ws_Bo_rowAt, wc_Bo_rowAt, wn_Bo⟩ ⟨by decide, by decide, by decide +kernel⟩ ⟨Nat.le_of_ble_eq_true rfl, Nat.le_of_ble_eq_true rfl⟩ hl.1 rfl (rest := [.int (nI (sm (fun k => sm (shR (a (18 + 3 * b + 1)) (a (18 + 3 * b2 + 1)) ((↑k : Int) - 7)) 15) k + sm (shR (a (18 + 3 * b + 1)) (a (18 + 3 * b2 + 1)) ((↑k : Int) - 7)) j))]) rfl (Nat.le_of_ble_eq_true rfl) ⟨Nat.zero_le _, Nat.zero_le _⟩ d_Bo_shared_27 (fun rr hrr => ?_)
              subst hrr
              refine lv_aload_n hx hb d_Bo_shared_30 rfl (lv_at hl 1 rfl) ?_
              refine lv_iload hx hb d_Bo_shared_31 (lv_at hl 4 rfl) ?_
              refine lv_iload_n hx hb d_Bo_shared_33 rfl (lv_at hl 3 rfl) ?_
              refine rd_call (np := 2) hC hK hP (cw_he (by omega) (cE_B b2)) rfl (c_Bo_rowAt l D cT X I a b2 ((↑j : Int) - 7) ((↑k : Int) - 7) hbn2 (by omega) (by omega) (by omega) (by omega)) rfl ⟨wl_Bo_51, wi_Bo_rowAt, ws_Bo_rowAt, wc_Bo_rowAt, wn_Bo⟩ ⟨by decide, by decide, by decide +kernel⟩ ⟨Nat.le_of_ble_eq_true rfl, Nat.le_of_ble_eq_true rfl⟩ hl.1 rfl (rest := [.int (rwA (a (18 + 3 * b + 1)) ((↑j : Int) - 7) ((↑k : Int) - 7)), .int (nI (sm (fun k => sm (shR (a (18 + 3 * b + 1)) (a (18 + 3 * b2 + 1)) ((↑k : Int) - 7)) 15) k + sm (shR (a (18 + 3 * b + 1)) (a (18 + 3 * b2 + 1)) ((↑k : Int) - 7)) j))]) rfl (Nat.le_of_ble_eq_true rfl) ⟨Nat.zero_le _, Nat.zero_le _⟩ d_Bo_shared_34 (fun rr hrr => ?_)
              subst hrr
              refine lv_iand hx hb d_Bo_shared_37 ?_
              refine st_calli (np := 1) hC (c_In_bitCount l ((rwA (a (18 + 3 * b + 1)) ((↑j : Int) - 7) ((↑k : Int) - 7)) &&& (rwA (a (18 + 3 * b2 + 1)) ((↑j : Int) - 7) ((↑k : Int) - 7))) (lo_and (lo_rwA hlo))) ⟨wl_Bo_54, wt_In_bitCount, wc_In_bitCount, wn_In⟩ ⟨by decide, by decide, by decide +kernel⟩ ⟨Nat.le_of_ble_eq_true rfl, Nat.le_of_ble_eq_true rfl⟩ hl.1 rfl (rest := [.int (nI (sm (fun k => sm (shR (a (18 + 3 * b + 1)) (a (18 + 3 * b2 + 1)) ((↑k : Int) - 7)) 15) k + sm (shR (a (18 + 3 * b + 1)) (a (18 + 3 * b2 + 1)) ((↑k : Int) - 7)) j))]) rfl (Nat.le_of_ble_eq_true rfl) ⟨Nat.zero_le _, Nat.zero_le _⟩ d_Bo_shared_38 (fun rr hrr => ?_)
              subst hrr
              refine lv_iadd hx hb d_Bo_shared_41 ?_
              refine topi_eq (nI_add (sm (fun k => sm (shR (a (18 + 3 * b + 1)) (a (18 + 3 * b2 + 1)) ((↑k : Int) - 7)) 15) k + sm (shR (a (18 + 3 * b + 1)) (a (18 + 3 * b2 + 1)) ((↑k : Int) - 7)) j) (cn (bt ((rwA (a (18 + 3 * b + 1)) ((↑j : Int) - 7) ((↑k : Int) - 7)) &&& (rwA (a (18 + 3 * b2 + 1)) ((↑j : Int) - 7) ((↑k : Int) - 7)))) 16)) ?_
              refine lv_istore_n (lv' := [(2, .int (nI ((sm (fun k => sm (shR (a (18 + 3 * b + 1)) (a (18 + 3 * b2 + 1)) ((↑k : Int) - 7)) 15) k + sm (shR (a (18 + 3 * b + 1)) (a (18 + 3 * b2 + 1)) ((↑k : Int) - 7)) j) + (cn (bt ((rwA (a (18 + 3 * b + 1)) ((↑j : Int) - 7) ((↑k : Int) - 7)) &&& (rwA (a (18 + 3 * b2 + 1)) ((↑j : Int) - 7) ((↑k : Int) - 7)))) 16)))), (0, .ref (X.1 (18 + 3 * b))), (1, .ref (X.1 (18 + 3 * b2))), (3, .int (iI ((↑k : Int) - 7))), (4, .int (iI ((↑j : Int) - 7)))]) hx hb d_Bo_shared_42 rfl hl (by decide) rfl (fun ls hl => ?_)
              refine lv_iinc (v := iI (((↑j : Int) - 7) + 1)) (lv' := [(4, .int (iI (((↑j : Int) - 7) + 1))), (2, .int (nI ((sm (fun k => sm (shR (a (18 + 3 * b + 1)) (a (18 + 3 * b2 + 1)) ((↑k : Int) - 7)) 15) k + sm (shR (a (18 + 3 * b + 1)) (a (18 + 3 * b2 + 1)) ((↑k : Int) - 7)) j) + (cn (bt ((rwA (a (18 + 3 * b + 1)) ((↑j : Int) - 7) ((↑k : Int) - 7)) &&& (rwA (a (18 + 3 * b2 + 1)) ((↑j : Int) - 7) ((↑k : Int) - 7)))) 16)))), (0, .ref (X.1 (18 + 3 * b))), (1, .ref (X.1 (18 + 3 * b2))), (3, .int (iI ((↑k : Int) - 7)))]) hx hb d_Bo_shared_43 hl (k := 4) rfl (iI_add ((↑j : Int) - 7) 1) (by decide) rfl (fun ls hl => ?_)
              refine lv_goto (tgt := 15) hx hb d_Bo_shared_46 (by decide) ?_
              exact ih15 (j + 1) _ (by omega) (by omega) (by rw [← iI_n7, sm_s1]; exact lv_sub hl [2, 3, 1, 4, 0] rfl)
        exact hL15 _ 0 _ (Nat.lt_succ_self _) (by omega) (by rw [show iI ((↑(0 : Nat) : Int) - 7) = -7 by decide]; exact lv_sub hl [1, 2, 3, 4, 0] rfl)
  exact hL5 _ 0 _ (Nat.lt_succ_self _) (by omega) (by rw [show iI ((↑(0 : Nat) : Int) - 7) = -7 by decide]; exact lv_sub hl [2, 3, 1, 0] rfl)
set_option maxHeartbeats 1000000 in
set_option maxRecDepth 100000 in
theorem c_Bo_hangingPoints (l : Launch) (D : va_G) (cT : Nat → ClassId) (X : CX) (I : Nat → Int32) (a : Nat → Nat → Int32) (b : Nat) (zc : Int)  (hbn : b < X.2.2.2.1) (hlo : ∀ q, q < 225 → lo16 (a (18 + 3 * b + 1) q)) (hz1 : -7 ≤ zc) (hz2 : zc ≤ 7) : RDi l D cT (cw cT X I a) y_Bo_hangingPoints b_Bo_hangingPoints 5 (some .int) 2 45 [.ref (X.1 (18 + 3 * b)), .int (iI zc)] (fun r => r = nI (sm (fun k => sm (hgR (a (18 + 3 * b + 1)) (zc + 1 + (↑k : Int))) 15) (7 - zc).toNat)) := by
  refine rd_enti (own := R_Bo) (by decide) rfl (Nat.le_of_ble_eq_true rfl) ?_
  intro p e s m args below meth c Q hC hK hP hret ls hl
  have hx := hC.1
  have hb := hC.2.1
  replace hl : lv_has ls 5 [(0, .ref (X.1 (18 + 3 * b))), (1, .int (iI zc))] := hl
  refine lv_iconst (v := 0) hx hb d_Bo_hangingPoints_0 (by decide) ?_
  refine lv_istore_n (lv' := [(2, .int 0), (0, .ref (X.1 (18 + 3 * b))), (1, .int (iI zc))]) hx hb d_Bo_hangingPoints_1 rfl hl (by decide) rfl (fun ls hl => ?_)
  refine lv_iload_n hx hb d_Bo_hangingPoints_2 rfl (lv_at hl 2 rfl) ?_
  refine lv_iconst (v := 1) hx hb d_Bo_hangingPoints_3 (by decide) ?_
  refine lv_iadd hx hb d_Bo_hangingPoints_4 ?_
  refine topi_eq (iI_add zc 1) ?_
  refine lv_istore_n (lv' := [(3, .int (iI (zc + 1))), (2, .int 0), (0, .ref (X.1 (18 + 3 * b))), (1, .int (iI zc))]) hx hb d_Bo_hangingPoints_5 rfl hl (by decide) rfl (fun ls hl => ?_)
  have hL6 : ∀ (nn : Nat) (k : Nat) (ls : Array Slot), 15 - k < nn → ((k : Int) ≤ 7 - zc) → lv_has ls 5 [(0, .ref (X.1 (18 + 3 * b))), (2, .int (nI (sm (fun k => sm (hgR (a (18 + 3 * b + 1)) (zc + 1 + (↑k : Int))) 15) k))), (3, .int (iI (zc + 1 + (↑k : Int))))] → W p l e (rmOf 2 45) s m args below meth c s.heap [] 0 0 Q (F0 m 6 ls []) := by
    intro nn
    induction nn with
    | zero =>
      intro k ls hmeas6 hk hl
      exact absurd hmeas6 (Nat.not_lt_zero _)
    | succ nn ih6 =>
      intro k ls hmeas6 hk hl
      refine lv_iload_n hx hb d_Bo_hangingPoints_6 rfl (lv_at hl 2 rfl) ?_
      refine lv_bipush (v := 7) hx hb d_Bo_hangingPoints_7 (by decide) ?_
      refine zc_gt hx hb (zc + 1 + (↑k : Int)) 7 (by omega) (by omega) (by omega) (by omega) d_Bo_hangingPoints_9 (tgt := 60) (by decide) (fun h1 => ?_) (fun h1 => ?_)
      · skip
        refine lv_iload_n hx hb d_Bo_hangingPoints_60 rfl (lv_at hl 1 rfl) ?_
        exact hret _ _ _ d_Bo_hangingPoints_61 (by rw [show (7 - zc).toNat = k by omega])
      · skip
        refine lv_bipush (v := (-7)) hx hb d_Bo_hangingPoints_12 (by decide) ?_
        refine lv_istore (lv' := [(4, .int (-7)), (0, .ref (X.1 (18 + 3 * b))), (2, .int (nI (sm (fun k => sm (hgR (a (18 + 3 * b + 1)) (zc + 1 + (↑k : Int))) 15) k))), (3, .int (iI (zc + 1 + (↑k : Int))))]) hx hb d_Bo_hangingPoints_14 hl (by decide) rfl (fun ls hl => ?_)
        have hL16 : ∀ (nn : Nat) (j : Nat) (ls : Array Slot), 15 - j < nn → (j ≤ 15) → lv_has ls 5 [(0, .ref (X.1 (18 + 3 * b))), (2, .int (nI (sm (fun k => sm (hgR (a (18 + 3 * b + 1)) (zc + 1 + (↑k : Int))) 15) k + sm (hgR (a (18 + 3 * b + 1)) (zc + 1 + (↑k : Int))) j))), (3, .int (iI (zc + 1 + (↑k : Int)))), (4, .int (iI ((↑j : Int) - 7)))] → W p l e (rmOf 2 45) s m args below meth c s.heap [] 0 0 Q (F0 m 16 ls []) := by
          intro nn
          induction nn with
          | zero =>
            intro j ls hmeas16 hj hl
            exact absurd hmeas16 (Nat.not_lt_zero _)
          | succ nn ih16 =>
            intro j ls hmeas16 hj hl
            refine lv_iload hx hb d_Bo_hangingPoints_16 (lv_at hl 3 rfl) ?_
            refine lv_bipush (v := 7) hx hb d_Bo_hangingPoints_18 (by decide) ?_
            refine zc_gt hx hb ((↑j : Int) - 7) 7 (by omega) (by omega) (by omega) (by omega) d_Bo_hangingPoints_20 (tgt := 54) (by decide) (fun h2 => ?_) (fun h2 => ?_)
            · skip
              refine lv_iinc (v := iI ((zc + 1 + (↑k : Int)) + 1)) (lv' := [(3, .int (iI ((zc + 1 + (↑k : Int)) + 1))), (0, .ref (X.1 (18 + 3 * b))), (2, .int (nI (sm (fun k => sm (hgR (a (18 + 3 * b + 1)) (zc + 1 + (↑k : Int))) 15) k + sm (hgR (a (18 + 3 * b + 1)) (zc + 1 + (↑k : Int))) j))), (4, .int (iI ((↑j : Int) - 7)))]) hx hb d_Bo_hangingPoints_54 hl (k := 2) rfl (iI_add (zc + 1 + (↑k : Int)) 1) (by decide) rfl (fun ls hl => ?_)
              refine lv_goto (tgt := 6) hx hb d_Bo_hangingPoints_57 (by decide) ?_
              obtain rfl : j = 15 := by omega
              exact ih6 (k + 1) _ (by omega) (by omega) (by rw [show zc + 1 + (↑(k + 1) : Int) = zc + 1 + (↑k : Int) + 1 by omega]; exact lv_sub hl [1, 2, 0] rfl)
            · skip
              refine lv_iload_n hx hb d_Bo_hangingPoints_23 rfl (lv_at hl 1 rfl) ?_
              refine lv_aload_n hx hb d_Bo_hangingPoints_24 rfl (lv_at hl 0 rfl) ?_
              refine lv_iload hx hb d_Bo_hangingPoints_25 (lv_at hl 3 rfl) ?_
              refine lv_iload_n hx hb d_Bo_hangingPoints_27 rfl (lv_at hl 2 rfl) ?_
              refine rd_call (np := 2) hC hK hP (cw_he (by omega) (cE_B b)) rfl (c_Bo_rowAt l D cT X I a b ((↑j : Int) - 7) (zc + 1 + (↑k : Int)) hbn (by omega) (by omega) (by omega) (by omega)) rfl ⟨wl_Bo_51, wi_Bo_rowAt, ws_Bo_rowAt, wc_Bo_rowAt, wn_Bo⟩ ⟨by decide, by decide, by decide +kernel⟩ ⟨Nat.le_of_ble_eq_true rfl, Nat.le_of_ble_eq_true rfl⟩ hl.1 rfl (rest := [.int (nI (sm (fun k => sm (hgR (a (18 + 3 * b + 1)) (zc + 1 + (↑k : Int))) 15) k + sm (hgR (a (18 + 3 * b + 1)) (zc + 1 + (↑k : Int))) j))]) rfl (Nat.le_of_ble_eq_true rfl) ⟨Nat.zero_le _, Nat.zero_le _⟩ d_Bo_hangingPoints_28 (fun rr hrr => ?_)
              subst hrr
              refine lv_aload_n hx hb d_Bo_hangingPoints_31 rfl (lv_at hl 0 rfl) ?_
              refine lv_iload hx hb d_Bo_hangingPoints_32 (lv_at hl 3 rfl) ?_
              refine lv_iload_n hx hb d_Bo_hangingPoints_34 rfl (lv_at hl 2 rfl) ?_
              refine lv_iconst (v := 1) hx hb d_Bo_hangingPoints_35 (by decide) ?_
              refine lv_isub hx hb d_Bo_hangingPoints_36 ?_
              refine topi_eq (iI_sub (zc + 1 + (↑k : Int)) 1) ?_
              refine rd_call (np := 2) hC hK hP (cw_he (by omega) (cE_B b)) rfl (c_Bo_rowAt l D cT X I a b ((↑j : Int) - 7) ((zc + 1 + (↑k : Int)) - 1) hbn (by omega) (by omega) (by omega) (by omega)) rfl ⟨wl_Bo_51, wi_Bo_rowAt, ws_Bo_rowAt, wc_Bo_rowAt, wn_Bo⟩ ⟨by decide, by decide, by decide +kernel⟩ ⟨Nat.le_of_ble_eq_true rfl, Nat.le_of_ble_eq_true rfl⟩ hl.1 rfl (rest := [.int (rwA (a (18 + 3 * b + 1)) ((↑j : Int) - 7) (zc + 1 + (↑k : Int))), .int (nI (sm (fun k => sm (hgR (a (18 + 3 * b + 1)) (zc + 1 + (↑k : Int))) 15) k + sm (hgR (a (18 + 3 * b + 1)) (zc + 1 + (↑k : Int))) j))]) rfl (Nat.le_of_ble_eq_true rfl) ⟨Nat.zero_le _, Nat.zero_le _⟩ d_Bo_hangingPoints_37 (fun rr hrr => ?_)
              subst hrr
              refine lv_iconst (v := (-1)) hx hb d_Bo_hangingPoints_40 (by decide) ?_
              refine lv_ixor hx hb d_Bo_hangingPoints_41 ?_
              refine lv_iand hx hb d_Bo_hangingPoints_42 ?_
              refine st_calli (np := 1) hC (c_In_bitCount l ((rwA (a (18 + 3 * b + 1)) ((↑j : Int) - 7) (zc + 1 + (↑k : Int))) &&& ((rwA (a (18 + 3 * b + 1)) ((↑j : Int) - 7) ((zc + 1 + (↑k : Int)) - 1)) ^^^ (-1))) (lo_and (lo_rwA hlo))) ⟨wl_Bo_54, wt_In_bitCount, wc_In_bitCount, wn_In⟩ ⟨by decide, by decide, by decide +kernel⟩ ⟨Nat.le_of_ble_eq_true rfl, Nat.le_of_ble_eq_true rfl⟩ hl.1 rfl (rest := [.int (nI (sm (fun k => sm (hgR (a (18 + 3 * b + 1)) (zc + 1 + (↑k : Int))) 15) k + sm (hgR (a (18 + 3 * b + 1)) (zc + 1 + (↑k : Int))) j))]) rfl (Nat.le_of_ble_eq_true rfl) ⟨Nat.zero_le _, Nat.zero_le _⟩ d_Bo_hangingPoints_43 (fun rr hrr => ?_)
              subst hrr
              refine lv_iadd hx hb d_Bo_hangingPoints_46 ?_
              refine topi_eq (nI_add (sm (fun k => sm (hgR (a (18 + 3 * b + 1)) (zc + 1 + (↑k : Int))) 15) k + sm (hgR (a (18 + 3 * b + 1)) (zc + 1 + (↑k : Int))) j) (cn (bt ((rwA (a (18 + 3 * b + 1)) ((↑j : Int) - 7) (zc + 1 + (↑k : Int))) &&& ((rwA (a (18 + 3 * b + 1)) ((↑j : Int) - 7) ((zc + 1 + (↑k : Int)) - 1)) ^^^ (-1)))) 16)) ?_
              refine lv_istore_n (lv' := [(2, .int (nI ((sm (fun k => sm (hgR (a (18 + 3 * b + 1)) (zc + 1 + (↑k : Int))) 15) k + sm (hgR (a (18 + 3 * b + 1)) (zc + 1 + (↑k : Int))) j) + (cn (bt ((rwA (a (18 + 3 * b + 1)) ((↑j : Int) - 7) (zc + 1 + (↑k : Int))) &&& ((rwA (a (18 + 3 * b + 1)) ((↑j : Int) - 7) ((zc + 1 + (↑k : Int)) - 1)) ^^^ (-1)))) 16)))), (0, .ref (X.1 (18 + 3 * b))), (3, .int (iI (zc + 1 + (↑k : Int)))), (4, .int (iI ((↑j : Int) - 7)))]) hx hb d_Bo_hangingPoints_47 rfl hl (by decide) rfl (fun ls hl => ?_)
              refine lv_iinc (v := iI (((↑j : Int) - 7) + 1)) (lv' := [(4, .int (iI (((↑j : Int) - 7) + 1))), (2, .int (nI ((sm (fun k => sm (hgR (a (18 + 3 * b + 1)) (zc + 1 + (↑k : Int))) 15) k + sm (hgR (a (18 + 3 * b + 1)) (zc + 1 + (↑k : Int))) j) + (cn (bt ((rwA (a (18 + 3 * b + 1)) ((↑j : Int) - 7) (zc + 1 + (↑k : Int))) &&& ((rwA (a (18 + 3 * b + 1)) ((↑j : Int) - 7) ((zc + 1 + (↑k : Int)) - 1)) ^^^ (-1)))) 16)))), (0, .ref (X.1 (18 + 3 * b))), (3, .int (iI (zc + 1 + (↑k : Int))))]) hx hb d_Bo_hangingPoints_48 hl (k := 3) rfl (iI_add ((↑j : Int) - 7) 1) (by decide) rfl (fun ls hl => ?_)
              refine lv_goto (tgt := 16) hx hb d_Bo_hangingPoints_51 (by decide) ?_
              exact ih16 (j + 1) _ (by omega) (by omega) (by rw [← iI_n7, sm_s1]; exact lv_sub hl [2, 1, 3, 0] rfl)
        exact hL16 _ 0 _ (Nat.lt_succ_self _) (by omega) (by rw [show iI ((↑(0 : Nat) : Int) - 7) = -7 by decide]; exact lv_sub hl [1, 2, 3, 0] rfl)
  exact hL6 _ 0 _ (Nat.lt_succ_self _) (by omega) (by rw [show zc + 1 + (↑(0 : Nat) : Int) = zc + 1 by omega]; exact lv_sub hl [2, 1, 0] rfl)
