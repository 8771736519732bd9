/-! the class: a body's points found -/
theorem cn_btn {n m : Nat} (h : n < 65536) : cn (bt (nI n)) m = cn (fun j => n.testBit j) m := by
  congr 1
  funext i
  exact bt_nI (by omega)
theorem lf_eq {i s c : Nat} (h1 : s ≤ i) (h2 : c ≤ i - s) : iI ((↑(i - s) : Int) - (↑c : Int)) = nI (i - (s + c)) := by
  rw [nI_iI]
  congr 1
  omega
theorem pt0_succ (f g : Nat → Int32) (n : Nat) {x : Int32} (hx : x = g n) : upd (pt f g 0 n) n x = pt f g 0 (n + 1) := by
  have h := pt_succ f g 0 n hx
  rwa [Nat.zero_add] at h
/-- whether a place is within, by the prefix rows of a text -/
def vwF (kd : Nat → Nat) (nb : Nat → Nat → Int) (k : Nat) : Bool := decide ((evF kd nb 10 0 (bx6 ((↑(k % 15) : Int) - 7) ((↑(k % 15) : Int) - 7) ((↑(k / 15 % 15) : Int) - 7) ((↑(k / 15 % 15) : Int) - 7) ((↑(k / 225) : Int) - 7) ((↑(k / 225) : Int) - 7))).1 < 0)
theorem vwF_at {kd : Nat → Nat} {nb : Nat → Nat → Int} {q n : Nat} (hn : n < 15) (hq : q < 225) : vwF kd nb (15 * q + n) = decide ((evF kd nb 10 0 (bx6 ((↑n : Int) - 7) ((↑n : Int) - 7) ((↑(q % 15) : Int) + (-7)) ((↑(q % 15) : Int) + (-7)) ((↑(q / 15) : Int) + (-7)) ((↑(q / 15) : Int) + (-7)))).1 < 0) := by
  unfold vwF
  rw [show (15 * q + n) % 15 = n by omega, show (15 * q + n) / 15 % 15 = q % 15 by omega, show (15 * q + n) / 225 = q / 15 by omega]
  rfl
def pbI (V : Nat → Bool) (q : Nat) : Nat → Int32
  | 0 => 0
  | n + 1 => if V (15 * q + n) = true then pbI V q n ||| ((1 : Int32) <<< (nI (n + 1) &&& 31)) else pbI V q n
def rwI (V : Nat → Bool) (q : Nat) : Int32 := pbI V q 15
theorem bt_one : ∀ m, m < 16 → ∀ i, i < 32 → bt ((1 : Int32) <<< (nI m &&& 31)) i = decide (i = m) := by decide +kernel
theorem bt_pb {V : Nat → Bool} {q : Nat} : ∀ (n : Nat), n ≤ 15 → ∀ i, i < 32 → bt (pbI V q n) i = (decide (1 ≤ i ∧ i ≤ n) && V (15 * q + (i - 1)))
  | 0, _, i, _ => by
    rw [decide_eq_false (by omega), Bool.false_and]
    exact b_0 i
  | n + 1, hn, i, hi => by
    unfold pbI
    have ih := bt_pb (V := V) (q := q) n (by omega) i hi
    by_cases hv : V (15 * q + n) = true
    · rw [if_pos hv, b_or, ih, bt_one (n + 1) (by omega) i hi]
      by_cases e : i = n + 1
      · subst e
        rw [decide_eq_true rfl, decide_eq_true (show 1 ≤ n + 1 ∧ n + 1 ≤ n + 1 by omega), Bool.or_true, Bool.true_and]
        exact hv.symm
      · rw [decide_eq_false e, Bool.or_false]
        congr 1
        rw [decide_eq_decide]
        omega
    · rw [if_neg hv, ih]
      by_cases e : i = n + 1
      · subst e
        rw [decide_eq_false (show ¬ (1 ≤ n + 1 ∧ n + 1 ≤ n) by omega), Bool.false_and, decide_eq_true (show 1 ≤ n + 1 ∧ n + 1 ≤ n + 1 by omega), Bool.true_and]
        exact (Bool.eq_false_iff.mpr hv).symm
      · congr 1
        rw [decide_eq_decide]
        omega
theorem bt_rwI {V : Nat → Bool} {q i : Nat} (hi : i < 32) : bt (rwI V q) i = (decide (1 ≤ i ∧ i ≤ 15) && V (15 * q + (i - 1))) := bt_pb 15 (Nat.le_refl _) i hi
theorem lo_rwI {V : Nat → Bool} {q : Nat} : lo16 (rwI V q) := fun i hi => by
  by_cases h : i < 32
  · rw [bt_rwI h, decide_eq_false (by omega), Bool.false_and]
  · exact b_big (by omega)
theorem n8_eq (n : Nat) : iI (((↑n : Int) - 7) + 8) = nI (n + 1) := by
  rw [nI_iI]
  congr 1
  omega
theorem PT6_bx (x y z : Int) : PT6 (bx6 x x y y z z) := ⟨rfl, rfl, rfl⟩
theorem FT_up {cT : Nat → ClassId} {X : CX} {I : Nat → Int32} {a : Nat → Nat → Int32} {kd : Nat → Nat} {nb : Nat → Nat → Int} {r : Nat} (h : FT X.2.2.2.2 kd nb 10 0 r) : FT (cw cT X I a) kd nb 10 0 r :=
  FT_mono (fun i q hq => ⟨_, (cw_far i).trans hq⟩) 10 0 r h
set_option maxHeartbeats 400000 in
set_option maxRecDepth 100000 in
theorem c_Bo_has (l : Launch) (D : va_G) (cT : Nat → ClassId) (X : CX) (I : Nat → Int32) (a : Nat → Nat → Int32) (b : Nat) (x : Int32) (y : Int32) (z : Int32) (kd : Nat → Nat) (nb : Nat → Nat → Int) (x' y' z' : Int) (hbn : b < X.2.2.2.1) (hF : FT (cw cT X I a) kd nb 10 0 (X.2.1 (18 + 3 * b))) (hrp : rpOk kd nb) (hx0 : x.toInt = x') (hy0 : y.toInt = y') (hz0 : z.toInt = z') : RDi l D cT (cw cT X I a) y_Bo_has b_Bo_has 4 (some .boolean) 24 820 [.ref (X.1 (18 + 3 * b)), .int x, .int y, .int z] (fun r => r = bI ((-7 ≤ x' ∧ x' ≤ 7 ∧ -7 ≤ y' ∧ y' ≤ 7 ∧ -7 ≤ z' ∧ z' ≤ 7) ∧ (evF kd nb 10 0 (bx6 x' x' y' y' z' z')).1 < 0)) := by
  refine rd_entz (own := R_Bo) (by decide) rfl (Nat.le_of_ble_eq_true rfl) ?_
  intro p e s m args below meth c Q hC hK hP hret ls hl
  have hx := hC.1
  have hb := hC.2.1
  replace hl : lv_has ls 4 [(0, .ref (X.1 (18 + 3 * b))), (1, .int x), (2, .int y), (3, .int z)] := hl
  have hb9 := fun (h : -7 ≤ x' ∧ x' ≤ 7 ∧ -7 ≤ y' ∧ y' ≤ 7 ∧ -7 ≤ z' ∧ z' ≤ 7) => ev_b hrp 10 0 (bx6 x' x' y' y' z' z') (by decide) (fun i => by have := bx6_b (x := x') (u := x') (y := y') (v := y') (z := z') (w := z') (by omega) i; omega)
  refine lv_iload_n hx hb d_Bo_has_0 rfl (lv_at hl 1 rfl) ?_
  refine lv_iload_n hx hb d_Bo_has_1 rfl (lv_at hl 2 rfl) ?_
  refine lv_iload_n hx hb d_Bo_has_2 rfl (lv_at hl 3 rfl) ?_
  refine st_calliN (np := 3) hC hK (c_So_isPoint l x y z x.toInt y.toInt z.toInt rfl rfl rfl) ⟨wL_Bo_33, wt_So_isPoint, wc_So_isPoint, wn_So⟩ ⟨by decide, by decide, by decide +kernel⟩ ⟨Nat.le_of_ble_eq_true rfl, Nat.le_of_ble_eq_true rfl⟩ hl.1 rfl (rest := []) rfl (Nat.le_of_ble_eq_true rfl) ⟨Nat.zero_le _, Nat.zero_le _⟩ d_Bo_has_3 (fun rr hrr => ?_)
  subst hrr
  refine bz_eq (tgt := 26) hx hb d_Bo_has_6 (by decide) (fun h1 => ?_) (fun h1 => ?_)
  · skip
    refine lv_iconst (v := 0) hx hb d_Bo_has_26 (by decide) ?_
    exact hret _ _ _ d_Bo_has_27 (by first | exact Or.inl rfl | exact Or.inr rfl | assumption) ((bI_f (fun z9 => by omega)).symm)
  · skip
    obtain rfl : x = iI x' := by rw [← hx0]; exact iI_of x
    obtain rfl : y = iI y' := by rw [← hy0]; exact iI_of y
    obtain rfl : z = iI z' := by rw [← hz0]; exact iI_of z
    refine lv_aload_n hx hb d_Bo_has_9 rfl (lv_at hl 0 rfl) ?_
    refine rd_get hC in_Bo hK hP (18 + 3 * b) (cw_he (by omega) (cE_B b)) rfl 0 (by decide) wf_Bo_25 rfl (v := .ref (X.2.1 (18 + 3 * b))) (rfl) d_Bo_has_10 ?_
    refine lv_iload_n hx hb d_Bo_has_13 rfl (lv_at hl 1 rfl) ?_
    refine lv_iload_n hx hb d_Bo_has_14 rfl (lv_at hl 2 rfl) ?_
    refine lv_iload_n hx hb d_Bo_has_15 rfl (lv_at hl 3 rfl) ?_
    refine fo_call (np := 3) hC hK hP (VA_v l D cT (cw cT X I a) hrp 10 0 _ (bx6 x' x' y' y' z' z') (by decide) hF (PT6_bx _ _ _) (fun i => by have := bx6_b (x := x') (u := x') (y := y') (v := y') (z := z') (w := z') (by omega) i; omega)) ⟨wl_Bo_37, wq_Fo_valueAt⟩ wD_valueAt ⟨by decide, by decide, by decide +kernel⟩ ⟨Nat.le_of_ble_eq_true rfl, Nat.le_of_ble_eq_true rfl⟩ hl.1 rfl (rest := []) rfl (Nat.le_of_ble_eq_true rfl) ⟨Nat.zero_le _, Nat.zero_le _⟩ d_Bo_has_16 (fun rr hrr => ?_)
    subst hrr
    refine zz_ge hx hb ((evF kd nb 10 0 (bx6 x' x' y' y' z' z')).1) (by have := (hb9 (by omega)).1; omega) (by have := (hb9 (by omega)).1; omega) d_Bo_has_19 (tgt := 26) (by decide) (fun h2 => ?_) (fun h2 => ?_)
    · skip
      refine lv_iconst (v := 0) hx hb d_Bo_has_26 (by decide) ?_
      exact hret _ _ _ d_Bo_has_27 (by first | exact Or.inl rfl | exact Or.inr rfl | assumption) ((bI_f (fun z9 => by omega)).symm)
    · skip
      refine lv_iconst (v := 1) hx hb d_Bo_has_22 (by decide) ?_
      refine lv_goto (tgt := 27) hx hb d_Bo_has_23 (by decide) ?_
      exact hret _ _ _ d_Bo_has_27 (by first | exact Or.inl rfl | exact Or.inr rfl | assumption) ((bI_t ⟨by omega, by assumption⟩).symm)
set_option maxHeartbeats 400000 in
set_option maxRecDepth 100000 in
theorem c_Bo_paint_y (l : Launch) (D : va_G) (cT : Nat → ClassId) (X : CX) (I : Nat → Int32) (a : Nat → Nat → Int32) (b : Nat)  (hbn : b < X.2.2.2.1) (hp : I (10 * (18 + 3 * b) + 3) = 1) : CMv l D cT X y_Bo_paint b_Bo_paint 4 none 24 820 [.ref (X.1 (18 + 3 * b))] I a (fun u => u = (upd I (10 * (18 + 3 * b) + 3) 1, a)) := by
  refine co_entv (own := R_Bo) (by decide) rfl (Nat.le_of_ble_eq_true rfl) ?_
  intro p e s m args below meth c Q hC hK hM hret ls hl
  have hx := hC.1
  have hb := hC.2.1
  replace hl : lv_has ls 4 [(0, .ref (X.1 (18 + 3 * b)))] := hl
  refine lv_iconst (v := 0) hx hb d_Bo_paint_0 (by decide) ?_
  refine lv_istore_n (lv' := [(1, .int 0), (0, .ref (X.1 (18 + 3 * b)))]) hx hb d_Bo_paint_1 rfl hl (by decide) rfl (fun ls hl => ?_)
  refine lv_iload_n hx hb d_Bo_paint_2 rfl (lv_at hl 0 rfl) ?_
  refine lv_sipush (v := 225) hx hb d_Bo_paint_3 (by decide) ?_
  refine ic_ge (tgt := 80) hx hb d_Bo_paint_6 (by decide) (fun h1 => ?_) (fun h1 => ?_)
  · skip
    refine lv_aload_n hx hb d_Bo_paint_80 rfl (lv_at hl 1 rfl) ?_
    refine lv_iconst (v := 1) hx hb d_Bo_paint_81 (by decide) ?_
    refine co_put hC in_Bo t_Bo t_Bo_ok n_Bo hK hM (18 + 3 * b) (by omega) (cE_B b) rfl 3 (by decide) wf_Bo_15 rfl rfl (ty := .boolean) (by decide +kernel) (x := 1) (vz_in (by first | exact Or.inl rfl | exact Or.inr rfl | exact bI_01 | assumption)).1 (vz_in (by first | exact Or.inl rfl | exact Or.inr rfl | exact bI_01 | assumption)).2 (Nat.le_of_ble_eq_true rfl) (by decide) (cE_B3 b) d_Bo_paint_82 (fun H locs hM => ?_)
    replace hM : CO D cT (CA X) X (upd I (10 * (18 + 3 * b) + 3) 1) a s.heap H locs := hM
    exact hret _ _ _ _ _ _ d_Bo_paint_85 hM (rfl)
  · skip
    refine lv_aload_n hx hb d_Bo_paint_9 rfl (lv_at hl 1 rfl) ?_
    refine rd_get hC in_Bo hK hM.1 (18 + 3 * b) (cw_he (by omega) (cE_B b)) rfl 3 (by decide) wf_Bo_15 rfl (v := .int 1) (congrArg (fun z : Int32 => some (Value.int z)) (hp)) d_Bo_paint_10 ?_
    refine lv_if_ne (tgt := 80) hx hb d_Bo_paint_13 (by decide) (fun h2 => ?_) (fun h2 => ?_)
    · skip
      refine lv_aload_n hx hb d_Bo_paint_80 rfl (lv_at hl 1 rfl) ?_
      refine lv_iconst (v := 1) hx hb d_Bo_paint_81 (by decide) ?_
      refine co_put hC in_Bo t_Bo t_Bo_ok n_Bo hK hM (18 + 3 * b) (by omega) (cE_B b) rfl 3 (by decide) wf_Bo_15 rfl rfl (ty := .boolean) (by decide +kernel) (x := 1) (vz_in (by first | exact Or.inl rfl | exact Or.inr rfl | exact bI_01 | assumption)).1 (vz_in (by first | exact Or.inl rfl | exact Or.inr rfl | exact bI_01 | assumption)).2 (Nat.le_of_ble_eq_true rfl) (by decide) (cE_B3 b) d_Bo_paint_82 (fun H locs hM => ?_)
      replace hM : CO D cT (CA X) X (upd I (10 * (18 + 3 * b) + 3) 1) a s.heap H locs := hM
      exact hret _ _ _ _ _ _ d_Bo_paint_85 hM (rfl)
    · exact absurd h2 (by decide)
set_option maxHeartbeats 1000000 in
set_option maxRecDepth 100000 in
theorem c_Bo_paint_n (l : Launch) (D : va_G) (cT : Nat → ClassId) (X : CX) (I : Nat → Int32) (a : Nat → Nat → Int32) (b : Nat) (kd : Nat → Nat) (nb : Nat → Nat → Int) (hbn : b < X.2.2.2.1) (hp : I (10 * (18 + 3 * b) + 3) = 0) (hF9 : FT X.2.2.2.2 kd nb 10 0 (X.2.1 (18 + 3 * b))) (hrp : rpOk kd nb) : CMv l D cT X y_Bo_paint b_Bo_paint 4 none 24 820 [.ref (X.1 (18 + 3 * b))] I a (fun u => u = (upd I (10 * (18 + 3 * b) + 3) 1, va_up a (18 + 3 * b + 1) (pt (a (18 + 3 * b + 1)) (rwI (vwF kd nb)) 0 225))) := by
  refine co_entv (own := R_Bo) (by decide) rfl (Nat.le_of_ble_eq_true rfl) ?_
  intro p e s m args below meth c Q hC hK hM hret ls hl
  have hx := hC.1
  have hb := hC.2.1
  replace hl : lv_has ls 4 [(0, .ref (X.1 (18 + 3 * b)))] := hl
  refine lv_iconst (v := 0) hx hb d_Bo_paint_0 (by decide) ?_
  refine lv_istore_n (lv' := [(1, .int 0), (0, .ref (X.1 (18 + 3 * b)))]) hx hb d_Bo_paint_1 rfl hl (by decide) rfl (fun ls hl => ?_)
  have hL2 : ∀ (nn : Nat) (q : Nat) (H : Heap) (locs : List Loc) (ls : Array Slot), 225 - q < nn → (q ≤ 225) → CO D cT (CA X) X I (va_up a (18 + 3 * b + 1) (pt (a (18 + 3 * b + 1)) (rwI (vwF kd nb)) 0 q)) s.heap H locs → lv_has ls 4 [(0, .ref (X.1 (18 + 3 * b))), (1, .int (nI q))] → W p l e (rmOf 24 820) s m args below meth c H locs 0 0 Q (F0 m 2 ls []) := by
    intro nn
    induction nn with
    | zero =>
      intro q H locs ls hmeas2 hq hM hl
      exact absurd hmeas2 (Nat.not_lt_zero _)
    | succ nn ih2 =>
      intro q H locs ls hmeas2 hq hM hl
      refine lv_iload_n hx hb d_Bo_paint_2 rfl (lv_at hl 1 rfl) ?_
      refine lv_sipush (v := 225) hx hb d_Bo_paint_3 (by decide) ?_
      refine nc_ge hx hb q 225 (by omega) (by omega) d_Bo_paint_6 (tgt := 80) (by decide) (fun h1 => ?_) (fun h1 => ?_)
      · skip
        refine lv_aload_n hx hb d_Bo_paint_80 rfl (lv_at hl 0 rfl) ?_
        refine lv_iconst (v := 1) hx hb d_Bo_paint_81 (by decide) ?_
        refine co_put hC in_Bo t_Bo t_Bo_ok n_Bo hK hM (18 + 3 * b) (by omega) (cE_B b) rfl 3 (by decide) wf_Bo_15 rfl rfl (ty := .boolean) (by decide +kernel) (x := 1) (vz_in (by first | exact Or.inl rfl | exact Or.inr rfl | exact bI_01 | assumption)).1 (vz_in (by first | exact Or.inl rfl | exact Or.inr rfl | exact bI_01 | assumption)).2 (Nat.le_of_ble_eq_true rfl) (by decide) (cE_B3 b) d_Bo_paint_82 (fun H locs hM => ?_)
        replace hM : CO D cT (CA X) X (upd I (10 * (18 + 3 * b) + 3) 1) (va_up a (18 + 3 * b + 1) (pt (a (18 + 3 * b + 1)) (rwI (vwF kd nb)) 0 q)) s.heap H locs := hM
        exact hret _ _ _ _ _ _ d_Bo_paint_85 hM (by rw [show q = 225 by omega])
      · skip
        refine lv_aload_n hx hb d_Bo_paint_9 rfl (lv_at hl 0 rfl) ?_
        refine rd_get hC in_Bo hK hM.1 (18 + 3 * b) (cw_he (by omega) (cE_B b)) rfl 3 (by decide) wf_Bo_15 rfl (v := .int 0) (congrArg (fun z : Int32 => some (Value.int z)) (hp)) d_Bo_paint_10 ?_
        refine lv_if_ne (tgt := 80) hx hb d_Bo_paint_13 (by decide) (fun h2 => ?_) (fun h2 => ?_)
        · exact absurd h2 (by decide)
        · skip
          refine lv_iconst (v := 0) hx hb d_Bo_paint_16 (by decide) ?_
          refine lv_istore_n (lv' := [(2, .int 0), (0, .ref (X.1 (18 + 3 * b))), (1, .int (nI q))]) hx hb d_Bo_paint_17 rfl hl (by decide) rfl (fun ls hl => ?_)
          refine lv_bipush (v := (-7)) hx hb d_Bo_paint_18 (by decide) ?_
          refine lv_istore_n (lv' := [(3, .int (-7)), (2, .int 0), (0, .ref (X.1 (18 + 3 * b))), (1, .int (nI q))]) hx hb d_Bo_paint_20 rfl hl (by decide) rfl (fun ls hl => ?_)
          have hL21 : ∀ (nn : Nat) (n : Nat) (H : Heap) (locs : List Loc) (ls : Array Slot), 15 - n < nn → (n ≤ 15) → CO D cT (CA X) X I (va_up a (18 + 3 * b + 1) (pt (a (18 + 3 * b + 1)) (rwI (vwF kd nb)) 0 q)) s.heap H locs → lv_has ls 4 [(0, .ref (X.1 (18 + 3 * b))), (1, .int (nI q)), (2, .int (pbI (vwF kd nb) q n)), (3, .int (iI ((↑n : Int) - 7)))] → W p l e (rmOf 24 820) s m args below meth c H locs 0 0 Q (F0 m 21 ls []) := by
            intro nn
            induction nn with
            | zero =>
              intro n H locs ls hmeas21 hn hM hl
              exact absurd hmeas21 (Nat.not_lt_zero _)
            | succ nn ih21 =>
              intro n H locs ls hmeas21 hn hM hl
              refine lv_iload_n hx hb d_Bo_paint_21 rfl (lv_at hl 3 rfl) ?_
              refine lv_bipush (v := 7) hx hb d_Bo_paint_22 (by decide) ?_
              refine zc_gt hx hb ((↑n : Int) - 7) 7 (by omega) (by omega) (by omega) (by omega) d_Bo_paint_24 (tgt := 67) (by decide) (fun h3 => ?_) (fun h3 => ?_)
              · skip
                refine lv_aload_n hx hb d_Bo_paint_67 rfl (lv_at hl 0 rfl) ?_
                refine rd_get hC in_Bo hK hM.1 (18 + 3 * b) (cw_he (by omega) (cE_B b)) rfl 2 (by decide) wf_Bo_9 rfl (v := .ref (X.1 (18 + 3 * b + 1))) (rfl) d_Bo_paint_68 ?_
                refine lv_iload_n hx hb d_Bo_paint_71 rfl (lv_at hl 1 rfl) ?_
                refine lv_iload_n hx hb d_Bo_paint_72 rfl (lv_at hl 2 rfl) ?_
                refine co_iast hC hK hM (18 + 3 * b + 1) (by omega) (fun f => cE_Cu b f) q (i := nI q) (x := pbI (vwF kd nb) q n) (rfl) (by omega) (by decide) d_Bo_paint_73 (fun H locs hM => ?_)
                rw [va_up_self _ _ _] at hM
                rw [bx_uu] at hM
                refine lv_iinc (v := nI (q + 1)) (lv' := [(1, .int (nI (q + 1))), (0, .ref (X.1 (18 + 3 * b))), (2, .int (pbI (vwF kd nb) q n)), (3, .int (iI ((↑n : Int) - 7)))]) hx hb d_Bo_paint_74 hl (k := 1) rfl (nI_add q 1) (by decide) rfl (fun ls hl => ?_)
                refine lv_goto (tgt := 2) hx hb d_Bo_paint_77 (by decide) ?_
                obtain rfl : n = 15 := by omega
                exact ih2 (q + 1) _ _ _ (by omega) (by omega) (by rw [← pt0_succ _ (rwI (vwF kd nb)) q rfl]; exact hM) (lv_sub hl [1, 0] rfl)
              · skip
                have hF : FT (cw cT X I (va_up a (18 + 3 * b + 1) (pt (a (18 + 3 * b + 1)) (rwI (vwF kd nb)) 0 q))) kd nb 10 0 (X.2.1 (18 + 3 * b)) := FT_up hF9
                have hb9 := ev_b hrp 10 0 (bx6 ((↑n : Int) - 7) ((↑n : Int) - 7) ((↑(q % 15) : Int) + (-7)) ((↑(q % 15) : Int) + (-7)) ((↑(q / 15) : Int) + (-7)) ((↑(q / 15) : Int) + (-7))) (by decide) (fun i => by have := bx6_b (x := (↑n : Int) - 7) (u := (↑n : Int) - 7) (y := (↑(q % 15) : Int) + (-7)) (v := (↑(q % 15) : Int) + (-7)) (z := (↑(q / 15) : Int) + (-7)) (w := (↑(q / 15) : Int) + (-7)) (by omega) i; omega)
                refine lv_aload_n hx hb d_Bo_paint_27 rfl (lv_at hl 0 rfl) ?_
                refine rd_get hC in_Bo hK hM.1 (18 + 3 * b) (cw_he (by omega) (cE_B b)) rfl 0 (by decide) wf_Bo_25 rfl (v := .ref (X.2.1 (18 + 3 * b))) (rfl) d_Bo_paint_28 ?_
                refine lv_iload_n hx hb d_Bo_paint_31 rfl (lv_at hl 3 rfl) ?_
                refine lv_iload_n hx hb d_Bo_paint_32 rfl (lv_at hl 1 rfl) ?_
                refine lv_bipush (v := 15) hx hb d_Bo_paint_33 (by decide) ?_
                refine iremN hx hb q 15 (by omega) (by decide) (by decide) d_Bo_paint_35 ?_
                refine lv_bipush (v := (-7)) hx hb d_Bo_paint_36 (by decide) ?_
                refine lv_iadd hx hb d_Bo_paint_38 ?_
                refine topi_eq (y := iI ((↑(q % 15) : Int) + (-7))) ((congrArg (fun z : Int32 => (nI (q % 15)) + z) (show ((-7) : Int32) = iI (-7) by decide)).trans (iI_add (↑(q % 15) : Int) (-7))) ?_
                refine lv_iload_n hx hb d_Bo_paint_39 rfl (lv_at hl 1 rfl) ?_
                refine lv_bipush (v := 15) hx hb d_Bo_paint_40 (by decide) ?_
                refine idivN hx hb q 15 (by omega) (by decide) (by decide) d_Bo_paint_42 ?_
                refine lv_bipush (v := (-7)) hx hb d_Bo_paint_43 (by decide) ?_
                refine lv_iadd hx hb d_Bo_paint_45 ?_
                refine topi_eq (y := iI ((↑(q / 15) : Int) + (-7))) ((congrArg (fun z : Int32 => (nI (q / 15)) + z) (show ((-7) : Int32) = iI (-7) by decide)).trans (iI_add (↑(q / 15) : Int) (-7))) ?_
                refine fo_call (np := 3) hC hK hM.1 (VA_v l D cT (cw cT X I (va_up a (18 + 3 * b + 1) (pt (a (18 + 3 * b + 1)) (rwI (vwF kd nb)) 0 q))) hrp 10 0 _ (bx6 ((↑n : Int) - 7) ((↑n : Int) - 7) ((↑(q % 15) : Int) + (-7)) ((↑(q % 15) : Int) + (-7)) ((↑(q / 15) : Int) + (-7)) ((↑(q / 15) : Int) + (-7))) (by decide) hF (PT6_bx _ _ _) (fun i => by have := bx6_b (x := (↑n : Int) - 7) (u := (↑n : Int) - 7) (y := (↑(q % 15) : Int) + (-7)) (v := (↑(q % 15) : Int) + (-7)) (z := (↑(q / 15) : Int) + (-7)) (w := (↑(q / 15) : Int) + (-7)) (by omega) i; omega)) ⟨wl_Bo_37, wq_Fo_valueAt⟩ wD_valueAt ⟨by decide, by decide, by decide +kernel⟩ ⟨Nat.le_of_ble_eq_true rfl, Nat.le_of_ble_eq_true rfl⟩ hl.1 rfl (rest := []) rfl (Nat.le_of_ble_eq_true rfl) ⟨Nat.zero_le _, Nat.zero_le _⟩ d_Bo_paint_46 (fun rr hrr => ?_)
                subst hrr
                refine zz_ge hx hb ((evF kd nb 10 0 (bx6 ((↑n : Int) - 7) ((↑n : Int) - 7) ((↑(q % 15) : Int) + (-7)) ((↑(q % 15) : Int) + (-7)) ((↑(q / 15) : Int) + (-7)) ((↑(q / 15) : Int) + (-7)))).1) (by have := hb9.1; omega) (by have := hb9.1; omega) d_Bo_paint_49 (tgt := 61) (by decide) (fun h4 => ?_) (fun h4 => ?_)
                · skip
                  refine lv_iinc (v := iI (((↑n : Int) - 7) + 1)) (lv' := [(3, .int (iI (((↑n : Int) - 7) + 1))), (0, .ref (X.1 (18 + 3 * b))), (1, .int (nI q)), (2, .int (pbI (vwF kd nb) q n))]) hx hb d_Bo_paint_61 hl (k := 3) rfl (iI_add ((↑n : Int) - 7) 1) (by decide) rfl (fun ls hl => ?_)
                  refine lv_goto (tgt := 21) hx hb d_Bo_paint_64 (by decide) ?_
                  exact ih21 (n + 1) _ _ _ (by omega) (by omega) (hM) (by rw [← iI_n7, pbI, if_neg (show ¬ vwF kd nb (15 * q + n) = true by rw [vwF_at (by omega) (by omega)]; exact fun z9 => h4 (of_decide_eq_true z9))]; exact lv_sub hl [1, 2, 3, 0] rfl)
                · skip
                  refine lv_iload_n hx hb d_Bo_paint_52 rfl (lv_at hl 2 rfl) ?_
                  refine lv_iconst (v := 1) hx hb d_Bo_paint_53 (by decide) ?_
                  refine lv_iload_n hx hb d_Bo_paint_54 rfl (lv_at hl 3 rfl) ?_
                  refine lv_bipush (v := 8) hx hb d_Bo_paint_55 (by decide) ?_
                  refine lv_iadd hx hb d_Bo_paint_57 ?_
                  refine topi_eq (iI_add ((↑n : Int) - 7) 8) ?_
                  refine topi_eq (n8_eq n) ?_
                  refine lv_ishl hx hb d_Bo_paint_58 ?_
                  refine lv_ior hx hb d_Bo_paint_59 ?_
                  refine lv_istore_n (lv' := [(2, .int ((pbI (vwF kd nb) q n) ||| (1 <<< ((nI (n + 1)) &&& 31)))), (0, .ref (X.1 (18 + 3 * b))), (1, .int (nI q)), (3, .int (iI ((↑n : Int) - 7)))]) hx hb d_Bo_paint_60 rfl hl (by decide) rfl (fun ls hl => ?_)
                  refine lv_iinc (v := iI (((↑n : Int) - 7) + 1)) (lv' := [(3, .int (iI (((↑n : Int) - 7) + 1))), (2, .int ((pbI (vwF kd nb) q n) ||| (1 <<< ((nI (n + 1)) &&& 31)))), (0, .ref (X.1 (18 + 3 * b))), (1, .int (nI q))]) hx hb d_Bo_paint_61 hl (k := 3) rfl (iI_add ((↑n : Int) - 7) 1) (by decide) rfl (fun ls hl => ?_)
                  refine lv_goto (tgt := 21) hx hb d_Bo_paint_64 (by decide) ?_
                  exact ih21 (n + 1) _ _ _ (by omega) (by omega) (hM) (by rw [← iI_n7, pbI, if_pos (show vwF kd nb (15 * q + n) = true by rw [vwF_at (by omega) (by omega)]; exact decide_eq_true (by omega))]; exact lv_sub hl [2, 3, 1, 0] rfl)
          exact hL21 _ 0 _ _ _ (Nat.lt_succ_self _) (by omega) (hM) (by rw [show iI ((↑(0 : Nat) : Int) - 7) = -7 by decide]; exact lv_sub hl [2, 3, 1, 0] rfl)
  exact hL2 _ 0 _ _ _ (Nat.lt_succ_self _) (by omega) (by rw [pt_0, up_same2 (f := a) (k := 18 + 3 * b + 1) (x := a (18 + 3 * b + 1)) rfl]; exact hM) (lv_sub hl [1, 0] rfl)
set_option maxHeartbeats 1000000 in
set_option maxRecDepth 100000 in
theorem c_Bo_coordinate (l : Launch) (D : va_G) (cT : Nat → ClassId) (X : CX) (I : Nat → Int32) (a : Nat → Nat → Int32) (b : Nat) (i0 : Nat) (what : Int32)  (hbn : b < X.2.2.2.1) (hlo : ∀ q, q < 225 → lo16 (a (18 + 3 * b + 1) q)) (hi0 : i0 < 2147483648) : RDi l D cT (cw cT X I a) y_Bo_coordinate b_Bo_coordinate 8 (some .int) 2 45 [.ref (X.1 (18 + 3 * b)), .int (nI i0), .int what] (fun r => (sm (rC (a (18 + 3 * b + 1))) 225 ≤ i0 ∧ r = -100) ∨ ∃ q i : Nat, q < 225 ∧ i < 16 ∧ bt ((a (18 + 3 * b + 1)) q) i = true ∧ sm (rC (a (18 + 3 * b + 1))) q + cn (bt ((a (18 + 3 * b + 1)) q)) i = i0 ∧ r = if what = 0 then iI ((↑i : Int) - 8) else if what = 1 then iI ((↑(q % 15) : Int) - 7) else iI ((↑(q / 15) : Int) - 7)) := by
  refine rd_enti (own := R_Bo) (by decide) rfl (Nat.le_of_ble_eq_true rfl) ?_
  intro p e s m args below meth c Q hC hK hP hret ls hl
  have hx := hC.1
  have hb := hC.2.1
  replace hl : lv_has ls 8 [(0, .ref (X.1 (18 + 3 * b))), (1, .int (nI i0)), (2, .int what)] := hl
  refine lv_iload_n hx hb d_Bo_coordinate_0 rfl (lv_at hl 1 rfl) ?_
  refine lv_istore_n (lv' := [(3, .int (nI i0)), (0, .ref (X.1 (18 + 3 * b))), (1, .int (nI i0)), (2, .int what)]) hx hb d_Bo_coordinate_1 rfl hl (by decide) rfl (fun ls hl => ?_)
  refine lv_bipush (v := (-7)) hx hb d_Bo_coordinate_2 (by decide) ?_
  refine lv_istore (lv' := [(4, .int (-7)), (3, .int (nI i0)), (0, .ref (X.1 (18 + 3 * b))), (1, .int (nI i0)), (2, .int what)]) hx hb d_Bo_coordinate_4 hl (by decide) rfl (fun ls hl => ?_)
  have hL6 : ∀ (nn : Nat) (k : Nat) (ls : Array Slot), 15 - k < nn → (k ≤ 15) → (sm (rC (a (18 + 3 * b + 1))) (15 * k) ≤ i0) → lv_has ls 8 [(0, .ref (X.1 (18 + 3 * b))), (2, .int what), (3, .int (nI (i0 - sm (rC (a (18 + 3 * b + 1))) (15 * k)))), (4, .int (iI ((↑k : Int) - 7)))] → W p l e (rmOf 2 45) s m args below meth c s.heap [] 0 0 Q (F0 m 6 ls []) := by
    intro nn
    induction nn with
    | zero =>
      intro k ls hmeas6 hk hs hl
      exact absurd hmeas6 (Nat.not_lt_zero _)
    | succ nn ih6 =>
      intro k ls hmeas6 hk hs hl
      refine lv_iload hx hb d_Bo_coordinate_6 (lv_at hl 3 rfl) ?_
      refine lv_bipush (v := 7) hx hb d_Bo_coordinate_8 (by decide) ?_
      refine zc_gt hx hb ((↑k : Int) - 7) 7 (by omega) (by omega) (by omega) (by omega) d_Bo_coordinate_10 (tgt := 90) (by decide) (fun h1 => ?_) (fun h1 => ?_)
      · skip
        refine lv_bipush (v := (-100)) hx hb d_Bo_coordinate_90 (by decide) ?_
        refine hret _ _ _ d_Bo_coordinate_92 ?_
        obtain rfl : k = 15 := by omega
        exact Or.inl ⟨hs, rfl⟩
      · skip
        refine lv_bipush (v := (-7)) hx hb d_Bo_coordinate_13 (by decide) ?_
        refine lv_istore (lv' := [(5, .int (-7)), (0, .ref (X.1 (18 + 3 * b))), (2, .int what), (3, .int (nI (i0 - sm (rC (a (18 + 3 * b + 1))) (15 * k)))), (4, .int (iI ((↑k : Int) - 7)))]) hx hb d_Bo_coordinate_15 hl (by decide) rfl (fun ls hl => ?_)
        have hL17 : ∀ (nn : Nat) (j : Nat) (ls : Array Slot), 15 - j < nn → (j ≤ 15) → (sm (rC (a (18 + 3 * b + 1))) (15 * k + j) ≤ i0) → lv_has ls 8 [(0, .ref (X.1 (18 + 3 * b))), (2, .int what), (3, .int (nI (i0 - sm (rC (a (18 + 3 * b + 1))) (15 * k + j)))), (4, .int (iI ((↑k : Int) - 7))), (5, .int (iI ((↑j : Int) - 7)))] → W p l e (rmOf 2 45) s m args below meth c s.heap [] 0 0 Q (F0 m 17 ls []) := by
          intro nn
          induction nn with
          | zero =>
            intro j ls hmeas17 hj hs hl
            exact absurd hmeas17 (Nat.not_lt_zero _)
          | succ nn ih17 =>
            intro j ls hmeas17 hj hs hl
            refine lv_iload hx hb d_Bo_coordinate_17 (lv_at hl 4 rfl) ?_
            refine lv_bipush (v := 7) hx hb d_Bo_coordinate_19 (by decide) ?_
            refine zc_gt hx hb ((↑j : Int) - 7) 7 (by omega) (by omega) (by omega) (by omega) d_Bo_coordinate_21 (tgt := 84) (by decide) (fun h2 => ?_) (fun h2 => ?_)
            · skip
              refine lv_iinc (v := iI (((↑k : Int) - 7) + 1)) (lv' := [(4, .int (iI (((↑k : Int) - 7) + 1))), (0, .ref (X.1 (18 + 3 * b))), (2, .int what), (3, .int (nI (i0 - sm (rC (a (18 + 3 * b + 1))) (15 * k + j)))), (5, .int (iI ((↑j : Int) - 7)))]) hx hb d_Bo_coordinate_84 hl (k := 3) rfl (iI_add ((↑k : Int) - 7) 1) (by decide) rfl (fun ls hl => ?_)
              refine lv_goto (tgt := 6) hx hb d_Bo_coordinate_87 (by decide) ?_
              obtain rfl : j = 15 := by omega
              exact ih6 (k + 1) _ (by omega) (by omega) (hs) (by rw [← iI_n7]; exact lv_sub hl [1, 2, 3, 0] rfl)
            · skip
              refine lv_aload_n hx hb d_Bo_coordinate_24 rfl (lv_at hl 0 rfl) ?_
              refine lv_iload hx hb d_Bo_coordinate_25 (lv_at hl 4 rfl) ?_
              refine lv_iload hx hb d_Bo_coordinate_27 (lv_at hl 3 rfl) ?_
              refine rd_call (np := 2) hC hK hP (cw_he (by omega) (cE_B b)) rfl (c_Bo_rowAt l D cT X I a b ((↑j : Int) - 7) ((↑k : Int) - 7) hbn (by omega) (by omega) (by omega) (by omega)) rfl ⟨wl_Bo_51, wi_Bo_rowAt, ws_Bo_rowAt, wc_Bo_rowAt, wn_Bo⟩ ⟨by decide, by decide, by decide +kernel⟩ ⟨Nat.le_of_ble_eq_true rfl, Nat.le_of_ble_eq_true rfl⟩ hl.1 rfl (rest := []) rfl (Nat.le_of_ble_eq_true rfl) ⟨Nat.zero_le _, Nat.zero_le _⟩ d_Bo_coordinate_29 (fun rr hrr => ?_)
              replace hrr : rr = (a (18 + 3 * b + 1)) (15 * k + j) := hrr.trans (rwA_in (by omega) (by omega))
              subst hrr
              refine lv_istore (lv' := [(6, .int ((a (18 + 3 * b + 1)) (15 * k + j))), (0, .ref (X.1 (18 + 3 * b))), (2, .int what), (3, .int (nI (i0 - sm (rC (a (18 + 3 * b + 1))) (15 * k + j)))), (4, .int (iI ((↑k : Int) - 7))), (5, .int (iI ((↑j : Int) - 7)))]) hx hb d_Bo_coordinate_32 hl (by decide) rfl (fun ls hl => ?_)
              refine lv_iload hx hb d_Bo_coordinate_34 (lv_at hl 0 rfl) ?_
              refine st_calli (np := 1) hC (c_In_bitCount l ((a (18 + 3 * b + 1)) (15 * k + j)) (hlo _ (by omega))) ⟨wl_Bo_54, wt_In_bitCount, wc_In_bitCount, wn_In⟩ ⟨by decide, by decide, by decide +kernel⟩ ⟨Nat.le_of_ble_eq_true rfl, Nat.le_of_ble_eq_true rfl⟩ hl.1 rfl (rest := []) rfl (Nat.le_of_ble_eq_true rfl) ⟨Nat.zero_le _, Nat.zero_le _⟩ d_Bo_coordinate_36 (fun rr hrr => ?_)
              subst hrr
              refine lv_istore (lv' := [(7, .int (nI (cn (bt ((a (18 + 3 * b + 1)) (15 * k + j))) 16))), (6, .int ((a (18 + 3 * b + 1)) (15 * k + j))), (0, .ref (X.1 (18 + 3 * b))), (2, .int what), (3, .int (nI (i0 - sm (rC (a (18 + 3 * b + 1))) (15 * k + j)))), (4, .int (iI ((↑k : Int) - 7))), (5, .int (iI ((↑j : Int) - 7)))]) hx hb d_Bo_coordinate_39 hl (by decide) rfl (fun ls hl => ?_)
              refine lv_iload_n hx hb d_Bo_coordinate_41 rfl (lv_at hl 4 rfl) ?_
              refine lv_iload hx hb d_Bo_coordinate_42 (lv_at hl 0 rfl) ?_
              refine nc_ge hx hb (i0 - sm (rC (a (18 + 3 * b + 1))) (15 * k + j)) (cn (bt ((a (18 + 3 * b + 1)) (15 * k + j))) 16) (by first | omega | (have := cn_le (bt ((a (18 + 3 * b + 1)) (15 * k + j))) 16; omega)) (by first | omega | (have := cn_le (bt ((a (18 + 3 * b + 1)) (15 * k + j))) 16; omega)) d_Bo_coordinate_44 (tgt := 73) (by decide) (fun h3 => ?_) (fun h3 => ?_)
              · skip
                refine lv_iload_n hx hb d_Bo_coordinate_73 rfl (lv_at hl 4 rfl) ?_
                refine lv_iload hx hb d_Bo_coordinate_74 (lv_at hl 0 rfl) ?_
                refine lv_isub hx hb d_Bo_coordinate_76 ?_
                refine topi_eq (iI_sub (↑(i0 - sm (rC (a (18 + 3 * b + 1))) (15 * k + j)) : Int) (↑(cn (bt ((a (18 + 3 * b + 1)) (15 * k + j))) 16) : Int)) ?_
                refine topi_eq (lf_eq hs (by omega)) ?_
                refine lv_istore_n (lv' := [(3, .int (nI (i0 - (sm (rC (a (18 + 3 * b + 1))) (15 * k + j) + cn (bt ((a (18 + 3 * b + 1)) (15 * k + j))) 16)))), (7, .int (nI (cn (bt ((a (18 + 3 * b + 1)) (15 * k + j))) 16))), (6, .int ((a (18 + 3 * b + 1)) (15 * k + j))), (0, .ref (X.1 (18 + 3 * b))), (2, .int what), (4, .int (iI ((↑k : Int) - 7))), (5, .int (iI ((↑j : Int) - 7)))]) hx hb d_Bo_coordinate_77 rfl hl (by decide) rfl (fun ls hl => ?_)
                refine lv_iinc (v := iI (((↑j : Int) - 7) + 1)) (lv' := [(5, .int (iI (((↑j : Int) - 7) + 1))), (3, .int (nI (i0 - (sm (rC (a (18 + 3 * b + 1))) (15 * k + j) + cn (bt ((a (18 + 3 * b + 1)) (15 * k + j))) 16)))), (7, .int (nI (cn (bt ((a (18 + 3 * b + 1)) (15 * k + j))) 16))), (6, .int ((a (18 + 3 * b + 1)) (15 * k + j))), (0, .ref (X.1 (18 + 3 * b))), (2, .int what), (4, .int (iI ((↑k : Int) - 7)))]) hx hb d_Bo_coordinate_78 hl (k := 6) rfl (iI_add ((↑j : Int) - 7) 1) (by decide) rfl (fun ls hl => ?_)
                refine lv_goto (tgt := 17) hx hb d_Bo_coordinate_81 (by decide) ?_
                exact ih17 (j + 1) _ (by omega) (by omega) ((by have h9 := hs; show sm (rC (a (18 + 3 * b + 1))) (15 * k + j) + cn (bt ((a (18 + 3 * b + 1)) (15 * k + j))) 16 ≤ i0; omega)) (by rw [← iI_n7]; exact lv_sub hl [4, 5, 1, 6, 0] rfl)
              · skip
                refine lv_iload_n hx hb d_Bo_coordinate_47 rfl (lv_at hl 3 rfl) ?_
                refine lv_if_ne (tgt := 60) hx hb d_Bo_coordinate_48 (by decide) (fun h4 => ?_) (fun h4 => ?_)
                · skip
                  refine lv_iload_n hx hb d_Bo_coordinate_60 rfl (lv_at hl 3 rfl) ?_
                  refine lv_iconst (v := 1) hx hb d_Bo_coordinate_61 (by decide) ?_
                  refine lv_icmp_ne (tgt := 70) hx hb d_Bo_coordinate_62 (by decide) (fun h5 => ?_) (fun h5 => ?_)
                  · skip
                    refine lv_iload hx hb d_Bo_coordinate_70 (lv_at hl 5 rfl) ?_
                    refine hret _ _ _ d_Bo_coordinate_72 ?_
                    obtain ⟨i9, k1, k2, k3⟩ := cn_ex (p := bt ((a (18 + 3 * b + 1)) (15 * k + j))) (i := 16) (k := i0 - sm (rC (a (18 + 3 * b + 1))) (15 * k + j)) (by assumption)
                    refine Or.inr ⟨15 * k + j, i9, by omega, k1, k2, by omega, ?_⟩
                    rw [if_neg h4, if_neg h5]
                    exact congrArg iI (by omega)
                  · skip
                    refine lv_iload hx hb d_Bo_coordinate_65 (lv_at hl 6 rfl) ?_
                    refine lv_goto (tgt := 72) hx hb d_Bo_coordinate_67 (by decide) ?_
                    refine hret _ _ _ d_Bo_coordinate_72 ?_
                    obtain ⟨i9, k1, k2, k3⟩ := cn_ex (p := bt ((a (18 + 3 * b + 1)) (15 * k + j))) (i := 16) (k := i0 - sm (rC (a (18 + 3 * b + 1))) (15 * k + j)) (by assumption)
                    refine Or.inr ⟨15 * k + j, i9, by omega, k1, k2, by omega, ?_⟩
                    rw [if_neg h4, if_pos h5]
                    exact congrArg iI (by omega)
                · skip
                  obtain ⟨n9, hn9, e9⟩ := lo16_n (hlo (15 * k + j) (by omega))
                  have hq9 : i0 - sm (rC (a (18 + 3 * b + 1))) (15 * k + j) < cn (fun j => n9.testBit j) 16 := by rw [← cn_btn hn9, ← e9]; assumption
                  rw [e9] at hl
                  refine lv_iload hx hb d_Bo_coordinate_51 (lv_at hl 1 rfl) ?_
                  refine lv_iload_n hx hb d_Bo_coordinate_53 rfl (lv_at hl 4 rfl) ?_
                  refine st_calli (np := 2) hC (c_Bo_xOfPoint l n9 (i0 - sm (rC (a (18 + 3 * b + 1))) (15 * k + j)) hn9 hq9 (by have := cn_le (fun j => n9.testBit j) 16; omega)) ⟨wl_Bo_59, wt_Bo_xOfPoint, wc_Bo_xOfPoint, wn_Bo⟩ ⟨by decide, by decide, by decide +kernel⟩ ⟨Nat.le_of_ble_eq_true rfl, Nat.le_of_ble_eq_true rfl⟩ hl.1 rfl (rest := []) rfl (Nat.le_of_ble_eq_true rfl) ⟨Nat.zero_le _, Nat.zero_le _⟩ d_Bo_coordinate_54 (fun rr6 hrr6 => ?_)
                  refine lv_goto (tgt := 72) hx hb d_Bo_coordinate_57 (by decide) ?_
                  refine hret _ _ _ d_Bo_coordinate_72 ?_
                  obtain ⟨i9, k1, k2, k3, k4⟩ := hrr6
                  refine Or.inr ⟨15 * k + j, i9, by omega, k1, by rw [e9, bt_nI (by omega)]; exact k2, by rw [e9, cn_btn hn9, k3]; omega, ?_⟩
                  rw [if_pos h4]
                  exact k4
        exact hL17 _ 0 _ (Nat.lt_succ_self _) (by omega) (hs) (by rw [show iI ((↑(0 : Nat) : Int) - 7) = -7 by decide]; exact lv_sub hl [1, 2, 3, 4, 0] rfl)
  exact hL6 _ 0 _ (Nat.lt_succ_self _) (by omega) (Nat.zero_le _) (by rw [show iI ((↑(0 : Nat) : Int) - 7) = -7 by decide]; exact lv_sub hl [2, 4, 1, 0] rfl)
