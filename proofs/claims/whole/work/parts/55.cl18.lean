/-! the class: rays, scans, counts -/
def RYc (t : TX) (x y z u v w : Int) (r : Int32) : Prop := ∃ k : Nat, k ≤ 15 ∧ (∀ j, j < k → ¬ (inS x y z u v w j ∧ vl t (x + j * u) (y + j * v) (z + j * w) < 0)) ∧ ((k < 15 ∧ (inS x y z u v w k ∧ vl t (x + k * u) (y + k * v) (z + k * w) < 0) ∧ r = nI k) ∨ (k = 15 ∧ r = -4))
/-- three cells from a place that may run over -/
theorem at_3 {f : Int32} {i sz : Nat} (hi : i ≤ 20) (hs : sz ≤ 64) : ((0 ≤ (f + nI (3 * i)).toInt ∧ (f + nI (3 * i)).toInt < sz) ∧ (0 ≤ ((f + nI (3 * i)) + 1).toInt ∧ ((f + nI (3 * i)) + 1).toInt < sz) ∧ (0 ≤ ((f + nI (3 * i)) + 2).toInt ∧ ((f + nI (3 * i)) + 2).toInt < sz)) ↔ (0 ≤ f.toInt + (↑(3 * i) : Int) ∧ f.toInt + (↑(3 * i) : Int) ≤ (sz : Int) - 3) := by
  have hr := x_rng f
  have e : f + nI (3 * i) = iI (f.toInt + (↑(3 * i) : Int)) := by rw [iI_of f, nI_iI, iI_add, iI_tx]
  by_cases g : f.toInt + (↑(3 * i) : Int) < 2147483648
  · have e0 : (f + nI (3 * i)).toInt = f.toInt + (↑(3 * i) : Int) := by rw [e, iI_toInt (by omega) g]
    by_cases g2 : f.toInt + (↑(3 * i) : Int) < 2147483600
    · have e1 : ((f + nI (3 * i)) + 1).toInt = f.toInt + (↑(3 * i) : Int) + 1 := by rw [e, show (1 : Int32) = iI 1 from rfl, iI_add, iI_toInt (by omega) (by omega)]
      have e2 : ((f + nI (3 * i)) + 2).toInt = f.toInt + (↑(3 * i) : Int) + 2 := by rw [e, show (2 : Int32) = iI 2 from rfl, iI_add, iI_toInt (by omega) (by omega)]
      rw [e0, e1, e2]
      omega
    · rw [e0]
      omega
  · have e3 : (f + nI (3 * i)).toInt = f.toInt + (↑(3 * i) : Int) - 4294967296 := by
      rw [e]
      have : iI (f.toInt + (↑(3 * i) : Int)) = iI (f.toInt + (↑(3 * i) : Int) - 4294967296) := by
        rw [← iI_sub, show iI 4294967296 = 0 from rfl]
        exact (Int32.sub_zero _).symm
      rw [this, iI_toInt (by omega) (by omega)]
    rw [e3]
    omega
theorem at_n {f : Int32} {i sz : Nat} (hi : i ≤ 20) (hs : sz ≤ 64) (h : 0 ≤ f.toInt + (↑(3 * i) : Int) ∧ f.toInt + (↑(3 * i) : Int) ≤ (sz : Int) - 3) : (f + nI (3 * i)).toInt.toNat = (f.toInt + (↑(3 * i) : Int)).toNat ∧ ((f + nI (3 * i)) + 1).toInt.toNat = (f.toInt + (↑(3 * i) : Int)).toNat + 1 ∧ ((f + nI (3 * i)) + 2).toInt.toNat = (f.toInt + (↑(3 * i) : Int)).toNat + 2 := by
  have hr := x_rng f
  have e : f + nI (3 * i) = iI (f.toInt + (↑(3 * i) : Int)) := by rw [iI_of f, nI_iI, iI_add, iI_tx]
  have e0 : (f + nI (3 * i)).toInt = f.toInt + (↑(3 * i) : Int) := by rw [e, iI_toInt (by omega) (by omega)]
  have e1 : ((f + nI (3 * i)) + 1).toInt = f.toInt + (↑(3 * i) : Int) + 1 := by rw [e, show (1 : Int32) = iI 1 from rfl, iI_add, iI_toInt (by omega) (by omega)]
  have e2 : ((f + nI (3 * i)) + 2).toInt = f.toInt + (↑(3 * i) : Int) + 2 := by rw [e, show (2 : Int32) = iI 2 from rfl, iI_add, iI_toInt (by omega) (by omega)]
  rw [e0, e1, e2]
  omega
set_option maxHeartbeats 400000 in
set_option maxRecDepth 100000 in
theorem c_So_ray_y (l : Launch) (D : va_G) (cT : Nat → ClassId) (X : CX) (I : Nat → Int32) (a : Nat → Nat → Int32) (b : Nat) (x : Int32) (y : Int32) (z : Int32) (u : Int32) (v : Int32) (w : Int32) (nb : Nat) (T : Nat → TX) (tl : Nat) (tb : Nat → Nat) (ft : Int32) (la : Nat → Int32) (szz : Nat → Nat) (ce : Nat → Nat → Int32) (hCI : CI X I a nb T tl tb ft la szz ce) (hbb : b < nb) : RDi l D cT (cw cT X I a) y_So_ray b_So_ray 10 (some .int) 25 843 [.ref (X.1 0), .int (nI b), .int x, .int y, .int z, .int u, .int v, .int w] (fun r => if (-7 ≤ x.toInt ∧ x.toInt ≤ 7 ∧ -7 ≤ y.toInt ∧ y.toInt ≤ 7 ∧ -7 ≤ z.toInt ∧ z.toInt ≤ 7) ∧ ((-3 ≤ u.toInt ∧ u.toInt ≤ 3 ∧ -3 ≤ v.toInt ∧ v.toInt ≤ 3 ∧ -3 ≤ w.toInt ∧ w.toInt ≤ 3) ∧ ¬ (u.toInt = 0 ∧ v.toInt = 0 ∧ w.toInt = 0)) then RYc (T b) x.toInt y.toInt z.toInt u.toInt v.toInt w.toInt r else r = -1) := by
  refine rd_enti (own := R_So) (by decide) rfl (Nat.le_of_ble_eq_true rfl) ?_
  intro p e s m args below meth c Q hC hK hP hret ls hl
  have hx := hC.1
  have hb := hC.2.1
  replace hl : lv_has ls 10 [(0, .ref (X.1 0)), (1, .int (nI b)), (2, .int x), (3, .int y), (4, .int z), (5, .int u), (6, .int v), (7, .int w)] := hl
  refine lv_aload_n hx hb d_So_ray_0 rfl (lv_at hl 0 rfl) ?_
  refine lv_iload_n hx hb d_So_ray_1 rfl (lv_at hl 1 rfl) ?_
  refine rd_callq (np := 1) hC hK hP (cw_he (by omega) (cE_0)) rfl (c_So_bodyNumber_y l D cT X I a b nb (by omega) (hCI.1.1) hCI.1.2.2.1 hCI.1.2.2.2.1) rfl ⟨wl_So_79, wi_So_bodyNumber, ws_So_bodyNumber, wc_So_bodyNumber, wn_So⟩ ⟨by decide, by decide, by decide +kernel⟩ ⟨Nat.le_of_ble_eq_true rfl, Nat.le_of_ble_eq_true rfl⟩ hl.1 rfl (rest := []) rfl (Nat.le_of_ble_eq_true rfl) ⟨Nat.zero_le _, Nat.zero_le _⟩ d_So_ray_2 (fun rr hrr => ?_)
  subst hrr
  refine lv_astore (lv' := [(8, .ref (X.1 (18 + 3 * b))), (0, .ref (X.1 0)), (1, .int (nI b)), (2, .int x), (3, .int y), (4, .int z), (5, .int u), (6, .int v), (7, .int w)]) hx hb d_So_ray_5 hl (by decide) rfl (fun ls hl => ?_)
  refine lv_aload hx hb d_So_ray_7 (lv_at hl 0 rfl) ?_
  refine lv_ifnull hx hb d_So_ray_9 ?_
  refine lv_iload_n hx hb d_So_ray_12 rfl (lv_at hl 3 rfl) ?_
  refine lv_iload_n hx hb d_So_ray_13 rfl (lv_at hl 4 rfl) ?_
  refine lv_iload hx hb d_So_ray_14 (lv_at hl 5 rfl) ?_
  refine st_calli (np := 3) hC (c_So_isPoint l x y z x.toInt y.toInt z.toInt rfl rfl rfl) ⟨wl_So_98, wt_So_isPoint, wc_So_isPoint, wn_So⟩ ⟨by decide, by decide, by decide +kernel⟩ ⟨Nat.le_of_ble_eq_true rfl, Nat.le_of_ble_eq_true rfl⟩ hl.1 rfl (rest := []) rfl (Nat.le_of_ble_eq_true rfl) ⟨Nat.zero_le _, Nat.zero_le _⟩ d_So_ray_16 (fun rr hrr => ?_)
  subst hrr
  refine bz_eq (tgt := 34) hx hb d_So_ray_19 (by decide) (fun h1 => ?_) (fun h1 => ?_)
  · skip
    refine lv_iconst (v := (-1)) hx hb d_So_ray_34 (by decide) ?_
    refine hret _ _ _ d_So_ray_35 ?_
    rw [if_neg (by omega)]
  · skip
    refine lv_iload hx hb d_So_ray_22 (lv_at hl 6 rfl) ?_
    refine lv_iload hx hb d_So_ray_24 (lv_at hl 7 rfl) ?_
    refine lv_iload hx hb d_So_ray_26 (lv_at hl 8 rfl) ?_
    refine st_calli (np := 3) hC (c_So_isStep l u v w) ⟨wl_So_176, wt_So_isStep, wc_So_isStep, wn_So⟩ ⟨by decide, by decide, by decide +kernel⟩ ⟨Nat.le_of_ble_eq_true rfl, Nat.le_of_ble_eq_true rfl⟩ hl.1 rfl (rest := []) rfl (Nat.le_of_ble_eq_true rfl) ⟨Nat.zero_le _, Nat.zero_le _⟩ d_So_ray_28 (fun rr hrr => ?_)
    subst hrr
    refine bz_ne (tgt := 36) hx hb d_So_ray_31 (by decide) (fun h2 => ?_) (fun h2 => ?_)
    · skip
      have hRC : (-7 ≤ x.toInt ∧ x.toInt ≤ 7 ∧ -7 ≤ y.toInt ∧ y.toInt ≤ 7 ∧ -7 ≤ z.toInt ∧ z.toInt ≤ 7) ∧ ((-3 ≤ u.toInt ∧ u.toInt ≤ 3 ∧ -3 ≤ v.toInt ∧ v.toInt ≤ 3 ∧ -3 ≤ w.toInt ∧ w.toInt ≤ 3) ∧ ¬ (u.toInt = 0 ∧ v.toInt = 0 ∧ w.toInt = 0)) := by omega
      rw [iI_of x, iI_of y, iI_of z, iI_of u, iI_of v, iI_of w] at hl
      have hbn9 : b < X.2.2.2.1 := by rw [hCI.1.2.1]; exact hbb
      obtain ⟨hF9, hrp, hE, -⟩ := hCI.1.2.2.2.2 b hbb
      have hF : FT (cw cT X I a) (T b).2.1 (T b).2.2.1 10 0 (X.2.1 (18 + 3 * b)) := FT_up hF9
      refine lv_iconst (v := 0) hx hb d_So_ray_36 (by decide) ?_
      refine lv_istore (lv' := [(9, .int 0), (8, .ref (X.1 (18 + 3 * b))), (0, .ref (X.1 0)), (1, .int (nI b)), (2, .int (iI x.toInt)), (3, .int (iI y.toInt)), (4, .int (iI z.toInt)), (5, .int (iI u.toInt)), (6, .int (iI v.toInt)), (7, .int (iI w.toInt))]) hx hb d_So_ray_37 hl (by decide) rfl (fun ls hl => ?_)
      have hL39 : ∀ (nn : Nat) (k : Nat) (ls : Array Slot), 15 - k < nn → (k ≤ 15) → (∀ j : Nat, j < k → ¬ (inS x.toInt y.toInt z.toInt u.toInt v.toInt w.toInt j ∧ vl (T b) (x.toInt + (↑j : Int) * u.toInt) (y.toInt + (↑j : Int) * v.toInt) (z.toInt + (↑j : Int) * w.toInt) < 0)) → lv_has ls 10 [(2, .int (iI x.toInt)), (3, .int (iI y.toInt)), (4, .int (iI z.toInt)), (5, .int (iI u.toInt)), (6, .int (iI v.toInt)), (7, .int (iI w.toInt)), (8, .ref (X.1 (18 + 3 * b))), (9, .int (nI k))] → W p l e (rmOf 25 843) s m args below meth c s.heap [] 0 0 Q (F0 m 39 ls []) := by
        intro nn
        induction nn with
        | zero =>
          intro k ls hmeas39 hk hpr hl
          exact absurd hmeas39 (Nat.not_lt_zero _)
        | succ nn ih39 =>
          intro k ls hmeas39 hk hpr hl
          refine lv_iload hx hb d_So_ray_39 (lv_at hl 7 rfl) ?_
          refine lv_bipush (v := 15) hx hb d_So_ray_41 (by decide) ?_
          refine nc_ge hx hb k 15 (by omega) (by omega) d_So_ray_43 (tgt := 85) (by decide) (fun h3 => ?_) (fun h3 => ?_)
          · skip
            refine lv_bipush (v := (-4)) hx hb d_So_ray_85 (by decide) ?_
            refine hret _ _ _ d_So_ray_87 ?_
            rw [if_pos hRC]
            obtain rfl : k = 15 := by omega
            exact ⟨15, hk, hpr, Or.inr ⟨rfl, rfl⟩⟩
          · skip
            have k1 := kmul hk (show -3 ≤ u.toInt ∧ u.toInt ≤ 3 by omega)
            have k2 := kmul hk (show -3 ≤ v.toInt ∧ v.toInt ≤ 3 by omega)
            have k3 := kmul hk (show -3 ≤ w.toInt ∧ w.toInt ≤ 3 by omega)
            refine lv_aload hx hb d_So_ray_46 (lv_at hl 6 rfl) ?_
            refine lv_iload_n hx hb d_So_ray_48 rfl (lv_at hl 0 rfl) ?_
            refine lv_iload hx hb d_So_ray_49 (lv_at hl 7 rfl) ?_
            refine lv_iload hx hb d_So_ray_51 (lv_at hl 3 rfl) ?_
            refine lv_imul hx hb d_So_ray_53 ?_
            refine topi_eq (iI_mul (↑k : Int) u.toInt) ?_
            refine lv_iadd hx hb d_So_ray_54 ?_
            refine topi_eq (iI_add x.toInt ((↑k : Int) * u.toInt)) ?_
            refine lv_iload_n hx hb d_So_ray_55 rfl (lv_at hl 1 rfl) ?_
            refine lv_iload hx hb d_So_ray_56 (lv_at hl 7 rfl) ?_
            refine lv_iload hx hb d_So_ray_58 (lv_at hl 4 rfl) ?_
            refine lv_imul hx hb d_So_ray_60 ?_
            refine topi_eq (iI_mul (↑k : Int) v.toInt) ?_
            refine lv_iadd hx hb d_So_ray_61 ?_
            refine topi_eq (iI_add y.toInt ((↑k : Int) * v.toInt)) ?_
            refine lv_iload hx hb d_So_ray_62 (lv_at hl 2 rfl) ?_
            refine lv_iload hx hb d_So_ray_64 (lv_at hl 7 rfl) ?_
            refine lv_iload hx hb d_So_ray_66 (lv_at hl 5 rfl) ?_
            refine lv_imul hx hb d_So_ray_68 ?_
            refine topi_eq (iI_mul (↑k : Int) w.toInt) ?_
            refine lv_iadd hx hb d_So_ray_69 ?_
            refine topi_eq (iI_add z.toInt ((↑k : Int) * w.toInt)) ?_
            refine rd_call (np := 3) hC hK hP (cw_he (by omega) (cE_B b)) rfl (c_Bo_has l D cT X I a b (iI (x.toInt + ((↑k : Int) * u.toInt))) (iI (y.toInt + ((↑k : Int) * v.toInt))) (iI (z.toInt + ((↑k : Int) * w.toInt))) _ _ (x.toInt + ((↑k : Int) * u.toInt)) (y.toInt + ((↑k : Int) * v.toInt)) (z.toInt + ((↑k : Int) * w.toInt)) hbn9 hF hrp (iI_toInt (z := x.toInt + ((↑k : Int) * u.toInt)) (by omega) (by omega)) (iI_toInt (z := y.toInt + ((↑k : Int) * v.toInt)) (by omega) (by omega)) (iI_toInt (z := z.toInt + ((↑k : Int) * w.toInt)) (by omega) (by omega))) rfl ⟨wl_So_179, wi_Bo_has, ws_Bo_has, wc_Bo_has, wn_Bo⟩ ⟨by decide, by decide, by decide +kernel⟩ ⟨Nat.le_of_ble_eq_true rfl, Nat.le_of_ble_eq_true rfl⟩ hl.1 rfl (rest := []) rfl (Nat.le_of_ble_eq_true rfl) ⟨Nat.zero_le _, Nat.zero_le _⟩ d_So_ray_70 (fun rr hrr => ?_)
            replace hrr : rr = bI ((-7 ≤ (x.toInt + ((↑k : Int) * u.toInt)) ∧ (x.toInt + ((↑k : Int) * u.toInt)) ≤ 7 ∧ -7 ≤ (y.toInt + ((↑k : Int) * v.toInt)) ∧ (y.toInt + ((↑k : Int) * v.toInt)) ≤ 7 ∧ -7 ≤ (z.toInt + ((↑k : Int) * w.toInt)) ∧ (z.toInt + ((↑k : Int) * w.toInt)) ≤ 7) ∧ vl (T b) (x.toInt + ((↑k : Int) * u.toInt)) (y.toInt + ((↑k : Int) * v.toInt)) (z.toInt + ((↑k : Int) * w.toInt)) < 0) := hrr.trans (by rw [ev_at hE])
            subst hrr
            refine bz_eq (tgt := 79) hx hb d_So_ray_73 (by decide) (fun h4 => ?_) (fun h4 => ?_)
            · skip
              refine lv_iinc (v := nI (k + 1)) (lv' := [(9, .int (nI (k + 1))), (2, .int (iI x.toInt)), (3, .int (iI y.toInt)), (4, .int (iI z.toInt)), (5, .int (iI u.toInt)), (6, .int (iI v.toInt)), (7, .int (iI w.toInt)), (8, .ref (X.1 (18 + 3 * b)))]) hx hb d_So_ray_79 hl (k := 7) rfl (nI_add k 1) (by decide) rfl (fun ls hl => ?_)
              refine lv_goto (tgt := 39) hx hb d_So_ray_82 (by decide) ?_
              exact ih39 (k + 1) _ (by omega) (by omega) (fun j hj => by by_cases z9 : j = k; (rw [z9]; exact h4); (exact hpr j (by omega))) (lv_sub hl [1, 2, 3, 4, 5, 6, 7, 0] rfl)
            · skip
              refine lv_iload hx hb d_So_ray_76 (lv_at hl 7 rfl) ?_
              refine hret _ _ _ d_So_ray_78 ?_
              rw [if_pos hRC]
              exact ⟨k, hk, hpr, Or.inl ⟨by omega, by assumption, rfl⟩⟩
      exact hL39 _ 0 _ (Nat.lt_succ_self _) (by omega) (fun j hj => by omega) (lv_sub hl [4, 5, 6, 7, 8, 9, 1, 0] rfl)
    · skip
      refine lv_iconst (v := (-1)) hx hb d_So_ray_34 (by decide) ?_
      refine hret _ _ _ d_So_ray_35 ?_
      rw [if_neg (by omega)]
set_option maxHeartbeats 400000 in
set_option maxRecDepth 100000 in
theorem c_So_ray_n (l : Launch) (D : va_G) (cT : Nat → ClassId) (X : CX) (I : Nat → Int32) (a : Nat → Nat → Int32) (b : Int32) (x : Int32) (y : Int32) (z : Int32) (u : Int32) (v : Int32) (w : Int32) (nb : Nat) (T : Nat → TX) (tl : Nat) (tb : Nat → Nat) (ft : Int32) (la : Nat → Int32) (szz : Nat → Nat) (ce : Nat → Nat → Int32) (hCI : CI X I a nb T tl tb ft la szz ce) (hbb : ¬ (0 ≤ b.toInt ∧ b.toInt < nb)) : RDi l D cT (cw cT X I a) y_So_ray b_So_ray 10 (some .int) 25 843 [.ref (X.1 0), .int b, .int x, .int y, .int z, .int u, .int v, .int w] (fun r => r = -1) := by
  refine rd_enti (own := R_So) (by decide) rfl (Nat.le_of_ble_eq_true rfl) ?_
  intro p e s m args below meth c Q hC hK hP hret ls hl
  have hx := hC.1
  have hb := hC.2.1
  replace hl : lv_has ls 10 [(0, .ref (X.1 0)), (1, .int b), (2, .int x), (3, .int y), (4, .int z), (5, .int u), (6, .int v), (7, .int w)] := hl
  refine lv_aload_n hx hb d_So_ray_0 rfl (lv_at hl 0 rfl) ?_
  refine lv_iload_n hx hb d_So_ray_1 rfl (lv_at hl 1 rfl) ?_
  refine rd_callq (np := 1) hC hK hP (cw_he (by omega) (cE_0)) rfl (c_So_bodyNumber_n l D cT X I a b nb hbb (hCI.1.1) hCI.1.2.2.1) rfl ⟨wl_So_79, wi_So_bodyNumber, ws_So_bodyNumber, wc_So_bodyNumber, wn_So⟩ ⟨by decide, by decide, by decide +kernel⟩ ⟨Nat.le_of_ble_eq_true rfl, Nat.le_of_ble_eq_true rfl⟩ hl.1 rfl (rest := []) rfl (Nat.le_of_ble_eq_true rfl) ⟨Nat.zero_le _, Nat.zero_le _⟩ d_So_ray_2 (fun rr hrr => ?_)
  subst hrr
  refine lv_astoreN (lv' := [(8, .null), (0, .ref (X.1 0)), (1, .int b), (2, .int x), (3, .int y), (4, .int z), (5, .int u), (6, .int v), (7, .int w)]) hx hb d_So_ray_5 hl (by decide) rfl (fun ls hl => ?_)
  refine lv_aloadN hx hb d_So_ray_7 (lv_at hl 0 rfl) ?_
  refine lv_ifnullN (tgt := 34) hx hb d_So_ray_9 (by decide) ?_
  refine lv_iconst (v := (-1)) hx hb d_So_ray_34 (by decide) ?_
  exact hret _ _ _ d_So_ray_35 (rfl)
set_option maxHeartbeats 1000000 in
set_option maxRecDepth 100000 in
theorem c_So_countScanned (l : Launch) (D : va_G) (cT : Nat → ClassId) (X : CX) (I : Nat → Int32) (a : Nat → Nat → Int32) (b : Nat) (j : Nat) (f : Int32) (n : Nat) (T : Nat → TX) (sz : Nat) (hbn9 : b < X.2.2.2.1) (hF : FT (cw cT X I a) (T b).2.1 (T b).2.2.1 10 0 (X.2.1 (18 + 3 * b))) (hrp : rpOk (T b).2.1 (T b).2.2.1) (hE : ∀ B, evF (T b).2.1 (T b).2.2.1 10 0 B = spT (T b) B) (hsz : I (10 * (10 + 2 * j) + 2) = nI sz) (h64 : sz ≤ 64) (hj : j < 4) (hn : n ≤ 20) : RDi l D cT (cw cT X I a) y_So_countScanned b_So_countScanned 10 (some .int) 25 843 [.ref (X.1 (18 + 3 * b)), .ref (X.1 (10 + 2 * j)), .int f, .int (nI n)] (fun r => r = scn (T b) (a (10 + 2 * j + 1)) (sz : Int) f.toInt n 0 0) := by
  refine rd_enti (own := R_So) (by decide) rfl (Nat.le_of_ble_eq_true rfl) ?_
  intro p e s m args below meth c Q hC hK hP hret ls hl
  have hx := hC.1
  have hb := hC.2.1
  replace hl : lv_has ls 10 [(0, .ref (X.1 (18 + 3 * b))), (1, .ref (X.1 (10 + 2 * j))), (2, .int f), (3, .int (nI n))] := hl
  refine lv_iconst (v := 0) hx hb d_So_countScanned_0 (by decide) ?_
  refine lv_istore (lv' := [(4, .int 0), (0, .ref (X.1 (18 + 3 * b))), (1, .ref (X.1 (10 + 2 * j))), (2, .int f), (3, .int (nI n))]) hx hb d_So_countScanned_1 hl (by decide) rfl (fun ls hl => ?_)
  refine lv_iconst (v := 0) hx hb d_So_countScanned_3 (by decide) ?_
  refine lv_istore (lv' := [(5, .int 0), (4, .int 0), (0, .ref (X.1 (18 + 3 * b))), (1, .ref (X.1 (10 + 2 * j))), (2, .int f), (3, .int (nI n))]) hx hb d_So_countScanned_4 hl (by decide) rfl (fun ls hl => ?_)
  have hL6 : ∀ (nn : Nat) (i : Nat) (s9 : Nat) (ls : Array Slot), n - i < nn → (i ≤ n) → (scn (T b) (a (10 + 2 * j + 1)) (sz : Int) f.toInt (n - i) i s9 = scn (T b) (a (10 + 2 * j + 1)) (sz : Int) f.toInt n 0 0) → lv_has ls 10 [(0, .ref (X.1 (18 + 3 * b))), (1, .ref (X.1 (10 + 2 * j))), (2, .int f), (3, .int (nI n)), (4, .int (nI s9)), (5, .int (nI i))] → W p l e (rmOf 25 843) s m args below meth c s.heap [] 0 0 Q (F0 m 6 ls []) := by
    intro nn
    induction nn with
    | zero =>
      intro i s9 ls hmeas6 hi hs hl
      exact absurd hmeas6 (Nat.not_lt_zero _)
    | succ nn ih6 =>
      intro i s9 ls hmeas6 hi hs hl
      refine lv_iload hx hb d_So_countScanned_6 (lv_at hl 5 rfl) ?_
      refine lv_iload_n hx hb d_So_countScanned_8 rfl (lv_at hl 3 rfl) ?_
      refine nc_ge hx hb i n (by omega) (by omega) d_So_countScanned_9 (tgt := 122) (by decide) (fun h1 => ?_) (fun h1 => ?_)
      · skip
        refine lv_iload hx hb d_So_countScanned_122 (lv_at hl 4 rfl) ?_
        refine hret _ _ _ d_So_countScanned_124 ?_
        obtain rfl : i = n := by omega
        rw [← hs, Nat.sub_self]
        rfl
      · skip
        refine lv_iload_n hx hb d_So_countScanned_12 rfl (lv_at hl 2 rfl) ?_
        refine lv_iconst (v := 3) hx hb d_So_countScanned_13 (by decide) ?_
        refine lv_iload hx hb d_So_countScanned_14 (lv_at hl 5 rfl) ?_
        refine lv_imul hx hb d_So_countScanned_16 ?_
        refine topi_eq (pk_mul 3 i) ?_
        refine lv_iadd hx hb d_So_countScanned_17 ?_
        refine lv_istore (lv' := [(6, .int (f + (nI (3 * i)))), (0, .ref (X.1 (18 + 3 * b))), (1, .ref (X.1 (10 + 2 * j))), (2, .int f), (3, .int (nI n)), (4, .int (nI s9)), (5, .int (nI i))]) hx hb d_So_countScanned_18 hl (by decide) rfl (fun ls hl => ?_)
        refine lv_aload_n hx hb d_So_countScanned_20 rfl (lv_at hl 2 rfl) ?_
        refine lv_iload hx hb d_So_countScanned_21 (lv_at hl 0 rfl) ?_
        refine rd_call (np := 1) hC hK hP (cw_he (by omega) (cE_S (by omega))) rfl (c_Sh_hasCell l D cT X I a j (f + (nI (3 * i))) sz ((f + (nI (3 * i))).toInt) hsz h64 hj (rfl)) rfl ⟨wl_So_219, wi_Sh_hasCell, ws_Sh_hasCell, wc_Sh_hasCell, wn_Sh⟩ ⟨by decide, by decide, by decide +kernel⟩ ⟨Nat.le_of_ble_eq_true rfl, Nat.le_of_ble_eq_true rfl⟩ hl.1 rfl (rest := []) rfl (Nat.le_of_ble_eq_true rfl) ⟨Nat.zero_le _, Nat.zero_le _⟩ d_So_countScanned_23 (fun rr hrr => ?_)
        subst hrr
        refine bz_eq (tgt := 51) hx hb d_So_countScanned_26 (by decide) (fun h2 => ?_) (fun h2 => ?_)
        · skip
          refine lv_bipush (v := (-12)) hx hb d_So_countScanned_51 (by decide) ?_
          refine hret _ _ _ d_So_countScanned_53 ?_
          rw [← hs]
          refine (scn_out (by omega) (fun z9 => ?_)).symm
          have z8 := (at_3 (f := f) (i := i) (sz := sz) (by omega) h64).mpr z9
          first | exact (by assumption : ¬ (0 ≤ (f + nI (3 * i)).toInt ∧ (f + nI (3 * i)).toInt < (↑sz : Int))) z8.1 | exact (by assumption : ¬ (0 ≤ ((f + nI (3 * i)) + 1).toInt ∧ ((f + nI (3 * i)) + 1).toInt < (↑sz : Int))) z8.2.1 | exact (by assumption : ¬ (0 ≤ ((f + nI (3 * i)) + 2).toInt ∧ ((f + nI (3 * i)) + 2).toInt < (↑sz : Int))) z8.2.2
        · skip
          refine lv_aload_n hx hb d_So_countScanned_29 rfl (lv_at hl 2 rfl) ?_
          refine lv_iload hx hb d_So_countScanned_30 (lv_at hl 0 rfl) ?_
          refine lv_iconst (v := 1) hx hb d_So_countScanned_32 (by decide) ?_
          refine lv_iadd hx hb d_So_countScanned_33 ?_
          refine rd_call (np := 1) hC hK hP (cw_he (by omega) (cE_S (by omega))) rfl (c_Sh_hasCell l D cT X I a j ((f + (nI (3 * i))) + 1) sz (((f + (nI (3 * i))) + 1).toInt) hsz h64 hj (rfl)) rfl ⟨wl_So_219, wi_Sh_hasCell, ws_Sh_hasCell, wc_Sh_hasCell, wn_Sh⟩ ⟨by decide, by decide, by decide +kernel⟩ ⟨Nat.le_of_ble_eq_true rfl, Nat.le_of_ble_eq_true rfl⟩ hl.1 rfl (rest := []) rfl (Nat.le_of_ble_eq_true rfl) ⟨Nat.zero_le _, Nat.zero_le _⟩ d_So_countScanned_34 (fun rr hrr => ?_)
          subst hrr
          refine bz_eq (tgt := 51) hx hb d_So_countScanned_37 (by decide) (fun h3 => ?_) (fun h3 => ?_)
          · skip
            refine lv_bipush (v := (-12)) hx hb d_So_countScanned_51 (by decide) ?_
            refine hret _ _ _ d_So_countScanned_53 ?_
            rw [← hs]
            refine (scn_out (by omega) (fun z9 => ?_)).symm
            have z8 := (at_3 (f := f) (i := i) (sz := sz) (by omega) h64).mpr z9
            first | exact (by assumption : ¬ (0 ≤ (f + nI (3 * i)).toInt ∧ (f + nI (3 * i)).toInt < (↑sz : Int))) z8.1 | exact (by assumption : ¬ (0 ≤ ((f + nI (3 * i)) + 1).toInt ∧ ((f + nI (3 * i)) + 1).toInt < (↑sz : Int))) z8.2.1 | exact (by assumption : ¬ (0 ≤ ((f + nI (3 * i)) + 2).toInt ∧ ((f + nI (3 * i)) + 2).toInt < (↑sz : Int))) z8.2.2
          · skip
            refine lv_aload_n hx hb d_So_countScanned_40 rfl (lv_at hl 2 rfl) ?_
            refine lv_iload hx hb d_So_countScanned_41 (lv_at hl 0 rfl) ?_
            refine lv_iconst (v := 2) hx hb d_So_countScanned_43 (by decide) ?_
            refine lv_iadd hx hb d_So_countScanned_44 ?_
            refine rd_call (np := 1) hC hK hP (cw_he (by omega) (cE_S (by omega))) rfl (c_Sh_hasCell l D cT X I a j ((f + (nI (3 * i))) + 2) sz (((f + (nI (3 * i))) + 2).toInt) hsz h64 hj (rfl)) rfl ⟨wl_So_219, wi_Sh_hasCell, ws_Sh_hasCell, wc_Sh_hasCell, wn_Sh⟩ ⟨by decide, by decide, by decide +kernel⟩ ⟨Nat.le_of_ble_eq_true rfl, Nat.le_of_ble_eq_true rfl⟩ hl.1 rfl (rest := []) rfl (Nat.le_of_ble_eq_true rfl) ⟨Nat.zero_le _, Nat.zero_le _⟩ d_So_countScanned_45 (fun rr hrr => ?_)
            subst hrr
            refine bz_ne (tgt := 54) hx hb d_So_countScanned_48 (by decide) (fun h4 => ?_) (fun h4 => ?_)
            · skip
              have hat : 0 ≤ f.toInt + (↑(3 * i) : Int) ∧ f.toInt + (↑(3 * i) : Int) ≤ (sz : Int) - 3 := (at_3 (by omega) h64).mp ⟨by assumption, by assumption, by assumption⟩
              have hnn := at_n (by omega) h64 hat
              have hth := (at_3 (f := f) (i := i) (sz := sz) (by omega) h64).mpr hat
              refine lv_aload_n hx hb d_So_countScanned_54 rfl (lv_at hl 2 rfl) ?_
              refine lv_iload hx hb d_So_countScanned_55 (lv_at hl 0 rfl) ?_
              refine rd_call (np := 1) hC hK hP (cw_he (by omega) (cE_S (by omega))) rfl (c_Sh_cell l D cT X I a j (f + (nI (3 * i))) sz ((f + (nI (3 * i))).toInt) hsz h64 hj (rfl)) rfl ⟨wl_So_222, wi_Sh_cell, ws_Sh_cell, wc_Sh_cell, wn_Sh⟩ ⟨by decide, by decide, by decide +kernel⟩ ⟨Nat.le_of_ble_eq_true rfl, Nat.le_of_ble_eq_true rfl⟩ hl.1 rfl (rest := []) rfl (Nat.le_of_ble_eq_true rfl) ⟨Nat.zero_le _, Nat.zero_le _⟩ d_So_countScanned_57 (fun rr hrr => ?_)
              replace hrr : rr = (a (10 + 2 * j + 1)) (f.toInt + (↑(3 * i) : Int)).toNat := hrr.trans ((if_pos (by omega)).trans (congrArg (a (10 + 2 * j + 1)) hnn.1))
              subst hrr
              refine lv_istore (lv' := [(7, .int ((a (10 + 2 * j + 1)) (f.toInt + (↑(3 * i) : Int)).toNat)), (6, .int (f + (nI (3 * i)))), (0, .ref (X.1 (18 + 3 * b))), (1, .ref (X.1 (10 + 2 * j))), (2, .int f), (3, .int (nI n)), (4, .int (nI s9)), (5, .int (nI i))]) hx hb d_So_countScanned_60 hl (by decide) rfl (fun ls hl => ?_)
              refine lv_aload_n hx hb d_So_countScanned_62 rfl (lv_at hl 3 rfl) ?_
              refine lv_iload hx hb d_So_countScanned_63 (lv_at hl 1 rfl) ?_
              refine lv_iconst (v := 1) hx hb d_So_countScanned_65 (by decide) ?_
              refine lv_iadd hx hb d_So_countScanned_66 ?_
              refine rd_call (np := 1) hC hK hP (cw_he (by omega) (cE_S (by omega))) rfl (c_Sh_cell l D cT X I a j ((f + (nI (3 * i))) + 1) sz (((f + (nI (3 * i))) + 1).toInt) hsz h64 hj (rfl)) rfl ⟨wl_So_222, wi_Sh_cell, ws_Sh_cell, wc_Sh_cell, wn_Sh⟩ ⟨by decide, by decide, by decide +kernel⟩ ⟨Nat.le_of_ble_eq_true rfl, Nat.le_of_ble_eq_true rfl⟩ hl.1 rfl (rest := []) rfl (Nat.le_of_ble_eq_true rfl) ⟨Nat.zero_le _, Nat.zero_le _⟩ d_So_countScanned_67 (fun rr hrr => ?_)
              replace hrr : rr = (a (10 + 2 * j + 1)) ((f.toInt + (↑(3 * i) : Int)).toNat + 1) := hrr.trans ((if_pos (by omega)).trans (congrArg (a (10 + 2 * j + 1)) hnn.2.1))
              subst hrr
              refine lv_istore (lv' := [(8, .int ((a (10 + 2 * j + 1)) ((f.toInt + (↑(3 * i) : Int)).toNat + 1))), (7, .int ((a (10 + 2 * j + 1)) (f.toInt + (↑(3 * i) : Int)).toNat)), (6, .int (f + (nI (3 * i)))), (0, .ref (X.1 (18 + 3 * b))), (1, .ref (X.1 (10 + 2 * j))), (2, .int f), (3, .int (nI n)), (4, .int (nI s9)), (5, .int (nI i))]) hx hb d_So_countScanned_70 hl (by decide) rfl (fun ls hl => ?_)
              refine lv_aload_n hx hb d_So_countScanned_72 rfl (lv_at hl 4 rfl) ?_
              refine lv_iload hx hb d_So_countScanned_73 (lv_at hl 2 rfl) ?_
              refine lv_iconst (v := 2) hx hb d_So_countScanned_75 (by decide) ?_
              refine lv_iadd hx hb d_So_countScanned_76 ?_
              refine rd_call (np := 1) hC hK hP (cw_he (by omega) (cE_S (by omega))) rfl (c_Sh_cell l D cT X I a j ((f + (nI (3 * i))) + 2) sz (((f + (nI (3 * i))) + 2).toInt) hsz h64 hj (rfl)) rfl ⟨wl_So_222, wi_Sh_cell, ws_Sh_cell, wc_Sh_cell, wn_Sh⟩ ⟨by decide, by decide, by decide +kernel⟩ ⟨Nat.le_of_ble_eq_true rfl, Nat.le_of_ble_eq_true rfl⟩ hl.1 rfl (rest := []) rfl (Nat.le_of_ble_eq_true rfl) ⟨Nat.zero_le _, Nat.zero_le _⟩ d_So_countScanned_77 (fun rr hrr => ?_)
              replace hrr : rr = (a (10 + 2 * j + 1)) ((f.toInt + (↑(3 * i) : Int)).toNat + 2) := hrr.trans ((if_pos (by omega)).trans (congrArg (a (10 + 2 * j + 1)) hnn.2.2))
              subst hrr
              refine lv_istore (lv' := [(9, .int ((a (10 + 2 * j + 1)) ((f.toInt + (↑(3 * i) : Int)).toNat + 2))), (8, .int ((a (10 + 2 * j + 1)) ((f.toInt + (↑(3 * i) : Int)).toNat + 1))), (7, .int ((a (10 + 2 * j + 1)) (f.toInt + (↑(3 * i) : Int)).toNat)), (6, .int (f + (nI (3 * i)))), (0, .ref (X.1 (18 + 3 * b))), (1, .ref (X.1 (10 + 2 * j))), (2, .int f), (3, .int (nI n)), (4, .int (nI s9)), (5, .int (nI i))]) hx hb d_So_countScanned_80 hl (by decide) rfl (fun ls hl => ?_)
              refine lv_iload hx hb d_So_countScanned_82 (lv_at hl 2 rfl) ?_
              refine lv_iload hx hb d_So_countScanned_84 (lv_at hl 1 rfl) ?_
              refine lv_iload hx hb d_So_countScanned_86 (lv_at hl 0 rfl) ?_
              refine st_calli (np := 3) hC (c_So_isPoint l ((a (10 + 2 * j + 1)) (f.toInt + (↑(3 * i) : Int)).toNat) ((a (10 + 2 * j + 1)) ((f.toInt + (↑(3 * i) : Int)).toNat + 1)) ((a (10 + 2 * j + 1)) ((f.toInt + (↑(3 * i) : Int)).toNat + 2)) (((a (10 + 2 * j + 1)) (f.toInt + (↑(3 * i) : Int)).toNat).toInt) (((a (10 + 2 * j + 1)) ((f.toInt + (↑(3 * i) : Int)).toNat + 1)).toInt) (((a (10 + 2 * j + 1)) ((f.toInt + (↑(3 * i) : Int)).toNat + 2)).toInt) rfl rfl rfl) ⟨wl_So_98, wt_So_isPoint, wc_So_isPoint, wn_So⟩ ⟨by decide, by decide, by decide +kernel⟩ ⟨Nat.le_of_ble_eq_true rfl, Nat.le_of_ble_eq_true rfl⟩ hl.1 rfl (rest := []) rfl (Nat.le_of_ble_eq_true rfl) ⟨Nat.zero_le _, Nat.zero_le _⟩ d_So_countScanned_88 (fun rr hrr => ?_)
              subst hrr
              refine bz_ne (tgt := 100) hx hb d_So_countScanned_91 (by decide) (fun h5 => ?_) (fun h5 => ?_)
              · skip
                have hpt9 := (by assumption : -7 ≤ (((a (10 + 2 * j + 1)) (f.toInt + (↑(3 * i) : Int)).toNat).toInt) ∧ (((a (10 + 2 * j + 1)) (f.toInt + (↑(3 * i) : Int)).toNat).toInt) ≤ 7 ∧ -7 ≤ (((a (10 + 2 * j + 1)) ((f.toInt + (↑(3 * i) : Int)).toNat + 1)).toInt) ∧ (((a (10 + 2 * j + 1)) ((f.toInt + (↑(3 * i) : Int)).toNat + 1)).toInt) ≤ 7 ∧ -7 ≤ (((a (10 + 2 * j + 1)) ((f.toInt + (↑(3 * i) : Int)).toNat + 2)).toInt) ∧ (((a (10 + 2 * j + 1)) ((f.toInt + (↑(3 * i) : Int)).toNat + 2)).toInt) ≤ 7)
                refine lv_aload_n hx hb d_So_countScanned_100 rfl (lv_at hl 4 rfl) ?_
                refine lv_iload hx hb d_So_countScanned_101 (lv_at hl 2 rfl) ?_
                refine lv_iload hx hb d_So_countScanned_103 (lv_at hl 1 rfl) ?_
                refine lv_iload hx hb d_So_countScanned_105 (lv_at hl 0 rfl) ?_
                refine rd_call (np := 3) hC hK hP (cw_he (by omega) (cE_B b)) rfl (c_Bo_has l D cT X I a b ((a (10 + 2 * j + 1)) (f.toInt + (↑(3 * i) : Int)).toNat) ((a (10 + 2 * j + 1)) ((f.toInt + (↑(3 * i) : Int)).toNat + 1)) ((a (10 + 2 * j + 1)) ((f.toInt + (↑(3 * i) : Int)).toNat + 2)) _ _ (((a (10 + 2 * j + 1)) (f.toInt + (↑(3 * i) : Int)).toNat).toInt) (((a (10 + 2 * j + 1)) ((f.toInt + (↑(3 * i) : Int)).toNat + 1)).toInt) (((a (10 + 2 * j + 1)) ((f.toInt + (↑(3 * i) : Int)).toNat + 2)).toInt) hbn9 hF hrp (rfl) (rfl) (rfl)) rfl ⟨wl_So_179, wi_Bo_has, ws_Bo_has, wc_Bo_has, wn_Bo⟩ ⟨by decide, by decide, by decide +kernel⟩ ⟨Nat.le_of_ble_eq_true rfl, Nat.le_of_ble_eq_true rfl⟩ hl.1 rfl (rest := []) rfl (Nat.le_of_ble_eq_true rfl) ⟨Nat.zero_le _, Nat.zero_le _⟩ d_So_countScanned_107 (fun rr hrr => ?_)
                replace hrr : rr = bI ((-7 ≤ (((a (10 + 2 * j + 1)) (f.toInt + (↑(3 * i) : Int)).toNat).toInt) ∧ (((a (10 + 2 * j + 1)) (f.toInt + (↑(3 * i) : Int)).toNat).toInt) ≤ 7 ∧ -7 ≤ (((a (10 + 2 * j + 1)) ((f.toInt + (↑(3 * i) : Int)).toNat + 1)).toInt) ∧ (((a (10 + 2 * j + 1)) ((f.toInt + (↑(3 * i) : Int)).toNat + 1)).toInt) ≤ 7 ∧ -7 ≤ (((a (10 + 2 * j + 1)) ((f.toInt + (↑(3 * i) : Int)).toNat + 2)).toInt) ∧ (((a (10 + 2 * j + 1)) ((f.toInt + (↑(3 * i) : Int)).toNat + 2)).toInt) ≤ 7) ∧ vl (T b) (((a (10 + 2 * j + 1)) (f.toInt + (↑(3 * i) : Int)).toNat).toInt) (((a (10 + 2 * j + 1)) ((f.toInt + (↑(3 * i) : Int)).toNat + 1)).toInt) (((a (10 + 2 * j + 1)) ((f.toInt + (↑(3 * i) : Int)).toNat + 2)).toInt) < 0) := hrr.trans (by rw [ev_at hE])
                subst hrr
                refine bz_eq (tgt := 116) hx hb d_So_countScanned_110 (by decide) (fun h6 => ?_) (fun h6 => ?_)
                · skip
                  refine lv_iinc (v := nI (i + 1)) (lv' := [(5, .int (nI (i + 1))), (9, .int ((a (10 + 2 * j + 1)) ((f.toInt + (↑(3 * i) : Int)).toNat + 2))), (8, .int ((a (10 + 2 * j + 1)) ((f.toInt + (↑(3 * i) : Int)).toNat + 1))), (7, .int ((a (10 + 2 * j + 1)) (f.toInt + (↑(3 * i) : Int)).toNat)), (6, .int (f + (nI (3 * i)))), (0, .ref (X.1 (18 + 3 * b))), (1, .ref (X.1 (10 + 2 * j))), (2, .int f), (3, .int (nI n)), (4, .int (nI s9))]) hx hb d_So_countScanned_116 hl (k := 9) rfl (nI_add i 1) (by decide) rfl (fun ls hl => ?_)
                  refine lv_goto (tgt := 6) hx hb d_So_countScanned_119 (by decide) ?_
                  exact ih6 (i + 1) s9 _ (by omega) (by omega) ((by rw [← hs, scn_go (by omega) hat hpt9, if_neg (fun z9 => h6 ⟨hpt9, z9⟩)]; rfl)) (lv_sub hl [5, 6, 7, 8, 9, 0] rfl)
                · skip
                  refine lv_iinc (v := nI (s9 + 1)) (lv' := [(4, .int (nI (s9 + 1))), (9, .int ((a (10 + 2 * j + 1)) ((f.toInt + (↑(3 * i) : Int)).toNat + 2))), (8, .int ((a (10 + 2 * j + 1)) ((f.toInt + (↑(3 * i) : Int)).toNat + 1))), (7, .int ((a (10 + 2 * j + 1)) (f.toInt + (↑(3 * i) : Int)).toNat)), (6, .int (f + (nI (3 * i)))), (0, .ref (X.1 (18 + 3 * b))), (1, .ref (X.1 (10 + 2 * j))), (2, .int f), (3, .int (nI n)), (5, .int (nI i))]) hx hb d_So_countScanned_113 hl (k := 8) rfl (nI_add s9 1) (by decide) rfl (fun ls hl => ?_)
                  refine lv_iinc (v := nI (i + 1)) (lv' := [(5, .int (nI (i + 1))), (4, .int (nI (s9 + 1))), (9, .int ((a (10 + 2 * j + 1)) ((f.toInt + (↑(3 * i) : Int)).toNat + 2))), (8, .int ((a (10 + 2 * j + 1)) ((f.toInt + (↑(3 * i) : Int)).toNat + 1))), (7, .int ((a (10 + 2 * j + 1)) (f.toInt + (↑(3 * i) : Int)).toNat)), (6, .int (f + (nI (3 * i)))), (0, .ref (X.1 (18 + 3 * b))), (1, .ref (X.1 (10 + 2 * j))), (2, .int f), (3, .int (nI n))]) hx hb d_So_countScanned_116 hl (k := 9) rfl (nI_add i 1) (by decide) rfl (fun ls hl => ?_)
                  refine lv_goto (tgt := 6) hx hb d_So_countScanned_119 (by decide) ?_
                  exact ih6 (i + 1) (s9 + 1) _ (by omega) (by omega) ((by rw [← hs, scn_go (by omega) hat hpt9, if_pos h6.2])) (lv_sub hl [6, 7, 8, 9, 1, 0] rfl)
              · skip
                refine lv_bipush (v := (-20)) hx hb d_So_countScanned_94 (by decide) ?_
                refine lv_iload hx hb d_So_countScanned_96 (lv_at hl 9 rfl) ?_
                refine lv_isub hx hb d_So_countScanned_98 ?_
                refine topi_eq (y := iI ((-20) - (↑i : Int))) ((congrArg (fun z : Int32 => z - (nI i)) (show ((-20) : Int32) = iI (-20) by decide)).trans (iI_sub (-20) (↑i : Int))) ?_
                refine hret _ _ _ d_So_countScanned_99 ?_
                rw [← hs]
                exact (scn_np (by omega) hat (by assumption)).symm
            · skip
              refine lv_bipush (v := (-12)) hx hb d_So_countScanned_51 (by decide) ?_
              refine hret _ _ _ d_So_countScanned_53 ?_
              rw [← hs]
              refine (scn_out (by omega) (fun z9 => ?_)).symm
              have z8 := (at_3 (f := f) (i := i) (sz := sz) (by omega) h64).mpr z9
              first | exact (by assumption : ¬ (0 ≤ (f + nI (3 * i)).toInt ∧ (f + nI (3 * i)).toInt < (↑sz : Int))) z8.1 | exact (by assumption : ¬ (0 ≤ ((f + nI (3 * i)) + 1).toInt ∧ ((f + nI (3 * i)) + 1).toInt < (↑sz : Int))) z8.2.1 | exact (by assumption : ¬ (0 ≤ ((f + nI (3 * i)) + 2).toInt ∧ ((f + nI (3 * i)) + 2).toInt < (↑sz : Int))) z8.2.2
  exact hL6 _ 0 0 _ (Nat.lt_succ_self _) (by omega) (rfl) (lv_sub hl [2, 3, 4, 5, 1, 0] rfl)
