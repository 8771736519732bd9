/-! the class: a body's partings -/
theorem csum3 {F : (Nat → Int) → Nat → Int} {e : Nat → Int} (hF : ∀ c, vbk c → c 6 = e 6 + 1 → e 6 + 1 ≤ F c 3 ∧ F c 3 ≤ 4) (hv : vbk e) (h3 : e 6 ≤ 3) : ∀ p, (0 ≤ csum F e p 3 ∧ csum F e p 3 ≤ 4) ∧ (1 ≤ p → e 6 + 1 ≤ csum F e p 3)
  | 0 => ⟨⟨by show (0 : Int) ≤ 0; omega, by show (0 : Int) ≤ 4; omega⟩, fun h => by omega⟩
  | p + 1 => by
    have ih := csum3 hF hv h3 p
    have h6 := hv.1
    by_cases q : ¬ (p % 2 = 1 ∧ e 0 = e 3) ∧ ¬ (2 * (p / 2 % 2) = 2 ∧ e 1 = e 4) ∧ ¬ (4 * (p / 4 % 2) = 4 ∧ e 2 = e 5)
    · rw [csum_y q]
      have hc := hF (chd e p) (chd_ok hv h3 q) rfl
      have ec : cb (csum F e p) (F (chd e p)) 3 = if csum F e p 3 < F (chd e p) 3 then F (chd e p) 3 else csum F e p 3 := rfl
      rw [ec]
      split <;> refine ⟨⟨by omega, by omega⟩, fun _ => by omega⟩
    · rw [csum_n q]
      refine ⟨ih.1, fun _ => ih.2 ?_⟩
      rcases Nat.eq_zero_or_pos p with z | z
      · subst z
        exact absurd ⟨by omega, by omega, by omega⟩ q
      · exact z
theorem paeD (t : TX) : ∀ (n : Nat) (e : Nat → Int), vbk e → 4 - (e 6).toNat ≤ n → e 6 ≤ pae t e 3 ∧ pae t e 3 ≤ 4 := by
  intro n
  induction n with
  | zero =>
    intro e hv hn
    have h6 := hv.1
    by_cases q : (spT t (bxe e)).2 < 0 ∨ ¬ (spT t (bxe e)).1 < 0 ∨ (e 0 = e 3 ∧ e 1 = e 4 ∧ e 2 = e 5)
    · rw [pae_leaf hv q]
      show e 6 ≤ e 6 ∧ e 6 ≤ 4
      omega
    · have := (pae_part hv q).2
      omega
  | succ n ih =>
    intro e hv hn
    have h6 := hv.1
    by_cases q : (spT t (bxe e)).2 < 0 ∨ ¬ (spT t (bxe e)).1 < 0 ∨ (e 0 = e 3 ∧ e 1 = e 4 ∧ e 2 = e 5)
    · rw [pae_leaf hv q]
      show e 6 ≤ e 6 ∧ e 6 ≤ 4
      omega
    · obtain ⟨h1, h2⟩ := pae_part hv q
      have hc := csum3 (F := pae t) (e := e) (fun c hc h => by have := ih c hc (by omega); omega) hv h2 8
      have hc2 := hc.2 (by omega)
      rw [h1]
      show e 6 ≤ (if (0 : Int) < csum (pae t) e 8 3 then csum (pae t) e 8 3 else 0) ∧ (if (0 : Int) < csum (pae t) e 8 3 then csum (pae t) e 8 3 else 0) ≤ 4
      rw [if_pos (by omega)]
      omega
def FR5 (f : Nat → Int32) (A : Nat → Int) : Prop := ∀ i, i < 5 → f i = iI (A i)
theorem i5 {i : Nat} (h : i < 5) : i = 0 ∨ i = 1 ∨ i = 2 ∨ i = 3 ∨ i = 4 := by omega
theorem lfP_in {f : Nat → Int32} {A e : Nat → Int} {t : TX} (hA : FR5 f A) (h : (spT t (bxe e)).2 < 0) : FR5 (upd (upd (upd (upd (upd f 4 (iI (A 4 + 1))) 3 (iI (mx (A 3) (e 6)))) 0 (iI (A 0 + 1))) 1 (iI (A 1 + 1))) 2 (iI (A 2 + (((e 3 - e 0) + 1) * ((e 4 - e 1) + 1)) * ((e 5 - e 2) + 1)))) (cb A (lfR t e)) := by
  intro i hi
  rcases i5 hi with rfl | rfl | rfl | rfl | rfl
  · rfl
  · refine (rfl : _ = iI (A 1 + 1)).trans (congrArg iI ?_)
    show A 1 + 1 = A 1 + (if (spT t (bxe e)).2 < 0 then 1 else 0)
    rw [if_pos h]
  · refine (rfl : _ = iI (A 2 + (((e 3 - e 0) + 1) * ((e 4 - e 1) + 1)) * ((e 5 - e 2) + 1))).trans (congrArg iI ?_)
    show _ = A 2 + (if (spT t (bxe e)).2 < 0 then (e 3 - e 0 + 1) * (e 4 - e 1 + 1) * (e 5 - e 2 + 1) else 0)
    rw [if_pos h]
  · rfl
  · rfl
theorem lfP_out {f : Nat → Int32} {A e : Nat → Int} {t : TX} (hA : FR5 f A) (h : ¬ (spT t (bxe e)).2 < 0) : FR5 (upd (upd (upd f 4 (iI (A 4 + 1))) 3 (iI (mx (A 3) (e 6)))) 0 (iI (A 0 + 1))) (cb A (lfR t e)) := by
  intro i hi
  rcases i5 hi with rfl | rfl | rfl | rfl | rfl
  · rfl
  · refine (hA 1 (by omega)).trans (congrArg iI ?_)
    show A 1 = A 1 + (if (spT t (bxe e)).2 < 0 then 1 else 0)
    rw [if_neg h, Int.add_zero]
  · refine (hA 2 (by omega)).trans (congrArg iI ?_)
    show _ = A 2 + (if (spT t (bxe e)).2 < 0 then (e 3 - e 0 + 1) * (e 4 - e 1 + 1) * (e 5 - e 2 + 1) else 0)
    rw [if_neg h, Int.add_zero]
  · rfl
  · rfl
def Ap (A e : Nat → Int) (i : Nat) : Int := if i = 4 then A 4 + 1 else if i = 3 then mx (A 3) (e 6) else A i
theorem prP_0 {f : Nat → Int32} {A e : Nat → Int} (hA : FR5 f A) : FR5 (upd (upd f 4 (iI (A 4 + 1))) 3 (iI (mx (A 3) (e 6)))) (Ap A e) := by
  intro i hi
  rcases i5 hi with rfl | rfl | rfl | rfl | rfl
  · exact hA 0 (by omega)
  · exact hA 1 (by omega)
  · exact hA 2 (by omega)
  · rfl
  · rfl
theorem prP_1 {A e : Nat → Int} {t : TX} (hv : vbk e) (h : ¬ ((spT t (bxe e)).2 < 0 ∨ ¬ (spT t (bxe e)).1 < 0 ∨ (e 0 = e 3 ∧ e 1 = e 4 ∧ e 2 = e 5))) {i : Nat} (hi : i < 5) : cb (Ap A e) (csum (pae t) e 8) i = cb A (pae t e) i := by
  obtain ⟨h1, h2⟩ := pae_part hv h
  have hc := (csum3 (F := pae t) (e := e) (fun c hc h => by have := paeD t 9 c hc (by omega); omega) hv h2 8).2 (by omega)
  have h6 := hv.1
  rw [h1]
  rcases i5 hi with rfl | rfl | rfl | rfl | rfl
  · show A 0 + csum (pae t) e 8 0 = A 0 + (0 + csum (pae t) e 8 0); omega
  · show A 1 + csum (pae t) e 8 1 = A 1 + (0 + csum (pae t) e 8 1); omega
  · show A 2 + csum (pae t) e 8 2 = A 2 + (0 + csum (pae t) e 8 2); omega
  · show (if mx (A 3) (e 6) < csum (pae t) e 8 3 then csum (pae t) e 8 3 else mx (A 3) (e 6)) = (if A 3 < (if (0 : Int) < csum (pae t) e 8 3 then csum (pae t) e 8 3 else 0) then (if (0 : Int) < csum (pae t) e 8 3 then csum (pae t) e 8 3 else 0) else A 3)
    rw [if_pos (show (0 : Int) < csum (pae t) e 8 3 by omega)]
    unfold mx
    (repeat' split) <;> omega
  · show A 4 + 1 + csum (pae t) e 8 4 = A 4 + (1 + csum (pae t) e 8 4); omega
theorem cb3 {A S : Nat → Int} (h1 : 0 ≤ A 3 ∧ A 3 ≤ 4) (h2 : 0 ≤ S 3 ∧ S 3 ≤ 4) : 0 ≤ cb A S 3 ∧ cb A S 3 ≤ 4 := by
  show 0 ≤ (if A 3 < S 3 then S 3 else A 3) ∧ (if A 3 < S 3 then S 3 else A 3) ≤ 4
  split <;> assumption
theorem FR5_0 {f : Nat → Int32} {A : Nat → Int} (h : FR5 f A) (h3 : 0 ≤ A 3) {e : Nat → Int} {F : (Nat → Int) → Nat → Int} : FR5 f (cb A (csum F e 0)) := by
  intro i hi
  refine (h i hi).trans (congrArg iI ?_)
  rcases i5 hi with rfl | rfl | rfl | rfl | rfl
  · show A 0 = A 0 + 0; omega
  · show A 1 = A 1 + 0; omega
  · show A 2 = A 2 + 0; omega
  · show A 3 = if A 3 < 0 then 0 else A 3; rw [if_neg (by omega)]
  · show A 4 = A 4 + 0; omega
theorem bxe_ok {e : Nat → Int} (hv : vbk e) : BX6 (bxe e) ∧ ∀ i, -(1300 - 20 * ((10 : Nat) : Int)) ≤ bxe e i ∧ bxe e i ≤ 1300 - 20 * ((10 : Nat) : Int) := by
  obtain ⟨-, h0, h1, h2⟩ := hv
  refine ⟨⟨h0.2.1, h1.2.1, h2.2.1⟩, fun i => ?_⟩
  have := bx6_b (x := e 0) (u := e 3) (y := e 1) (v := e 4) (z := e 2) (w := e 5) (by omega) i
  show -(1300 - 20 * ((10 : Nat) : Int)) ≤ bx6 (e 0) (e 3) (e 1) (e 4) (e 2) (e 5) i ∧ bx6 (e 0) (e 3) (e 1) (e 4) (e 2) (e 5) i ≤ 1300 - 20 * ((10 : Nat) : Int)
  omega
set_option maxHeartbeats 2000000 in
set_option maxRecDepth 100000 in
theorem c_Bo_partBlock (l : Launch) (D : va_G) (cT : Nat → ClassId) (X : CX) (I : Nat → Int32) (a : Nat → Nat → Int32) (b : Nat) (t : TX) (A eb : Nat → Int) (d : Nat) (hbn : b < X.2.2.2.1) (hv : vbk eb) (hA : FR5 (a (18 + 3 * b + 2)) A) (h3 : 0 ≤ A 3 ∧ A 3 ≤ 4) (hE : ∀ B, evF t.2.1 t.2.2.1 10 0 B = spT t B) (hF9 : FT X.2.2.2.2 t.2.1 t.2.2.1 10 0 (X.2.1 (18 + 3 * b))) (hrp : rpOk t.2.1 t.2.2.1) (hPT : ∀ (a' : Nat → Nat → Int32) (A' : Nat → Int), FR5 (a' (18 + 3 * b + 2)) A' → (0 ≤ A' 3 ∧ A' 3 ≤ 4) → eb 6 ≤ 3 → CMv l D cT X y_Bo_partInTwos b_Bo_partInTwos 18 none (26 + 2 * d) (900 + 80 * d) [.ref (X.1 (18 + 3 * b)), .int (iI (eb 0)), .int (iI (eb 1)), .int (iI (eb 2)), .int (iI (eb 3)), .int (iI (eb 4)), .int (iI (eb 5)), .int (iI (eb 6))] I a' (fun u => ∃ f, u = (I, va_up a' (18 + 3 * b + 2) f) ∧ FR5 f (cb A' (csum (pae t) eb 8)))) : CMv l D cT X y_Bo_partBlock b_Bo_partBlock 10 none (27 + 2 * d) (940 + 80 * d) [.ref (X.1 (18 + 3 * b)), .int (iI (eb 0)), .int (iI (eb 1)), .int (iI (eb 2)), .int (iI (eb 3)), .int (iI (eb 4)), .int (iI (eb 5)), .int (iI (eb 6))] I a (fun u => ∃ f, u = (I, va_up a (18 + 3 * b + 2) f) ∧ FR5 f (cb A (pae t eb))) := by
  refine co_entv (own := R_Bo) (by decide) rfl (Nat.le_of_ble_eq_true rfl) ?_
  intro p e s m args below meth c Q hC hK hM hret ls hl
  have hx := hC.1
  have hb := hC.2.1
  replace hl : lv_has ls 10 [(0, .ref (X.1 (18 + 3 * b))), (1, .int (iI (eb 0))), (2, .int (iI (eb 1))), (3, .int (iI (eb 2))), (4, .int (iI (eb 3))), (5, .int (iI (eb 4))), (6, .int (iI (eb 5))), (7, .int (iI (eb 6)))] := hl
  obtain ⟨hv6, hv0, hv1, hv2⟩ := id hv
  have hb9 := ev_b hrp 10 0 (bxe eb) (by decide) (bxe_ok hv).2
  rw [hE] at hb9
  obtain ⟨⟨hb91, hb92⟩, hb93, hb94⟩ := hb9
  refine lv_iload hx hb d_Bo_partBlock_0 (lv_at hl 7 rfl) ?_
  refine lv_iconst (v := 4) hx hb d_Bo_partBlock_2 (by decide) ?_
  refine zc_le hx hb (eb 6) 4 (by omega) (by omega) (by omega) (by omega) d_Bo_partBlock_3 (tgt := 7) (by decide) (fun h41 => ?_) (fun h41 => ?_)
  · skip
    refine lv_aload_n hx hb d_Bo_partBlock_7 rfl (lv_at hl 0 rfl) ?_
    refine rd_get hC in_Bo hK hM.1 (18 + 3 * b) (cw_he (by omega) (cE_B b)) rfl 4 (by decide) wf_Bo_19 rfl (v := .ref (X.1 (18 + 3 * b + 2))) (rfl) d_Bo_partBlock_8 ?_
    refine lv_iconst (v := 4) hx hb d_Bo_partBlock_11 (by decide) ?_
    refine lv_dup2_11 hx hb d_Bo_partBlock_12 rfl rfl ?_
    refine rd_iald hC hK hM.1 (18 + 3 * b + 2) (cw_he (by omega) (cE_D b)) 4 (i := 4) (rfl) (by decide) (by decide) (v := iI (A 4)) (hA 4 (by decide)) d_Bo_partBlock_13 ?_
    refine lv_iconst (v := 1) hx hb d_Bo_partBlock_14 (by decide) ?_
    refine lv_iadd hx hb d_Bo_partBlock_15 ?_
    refine topi_eq (iI_add (A 4) 1) ?_
    refine co_iast hC hK hM (18 + 3 * b + 2) (by omega) (fun f => cE_Du b f) 4 (i := 4) (x := iI ((A 4) + 1)) (rfl) (by decide) (by decide) d_Bo_partBlock_16 (fun H locs hM => ?_)
    refine lv_aload_n hx hb d_Bo_partBlock_17 rfl (lv_at hl 0 rfl) ?_
    refine rd_get hC in_Bo hK hM.1 (18 + 3 * b) (cw_he (by omega) (cE_B b)) rfl 4 (by decide) wf_Bo_19 rfl (v := .ref (X.1 (18 + 3 * b + 2))) (rfl) d_Bo_partBlock_18 ?_
    refine lv_iconst (v := 3) hx hb d_Bo_partBlock_21 (by decide) ?_
    refine lv_aload_n hx hb d_Bo_partBlock_22 rfl (lv_at hl 0 rfl) ?_
    refine rd_get hC in_Bo hK hM.1 (18 + 3 * b) (cw_he (by omega) (cE_B b)) rfl 4 (by decide) wf_Bo_19 rfl (v := .ref (X.1 (18 + 3 * b + 2))) (rfl) d_Bo_partBlock_23 ?_
    refine lv_iconst (v := 3) hx hb d_Bo_partBlock_26 (by decide) ?_
    refine rd_iald hC hK hM.1 (18 + 3 * b + 2) (cw_he (by omega) (cE_D b)) 3 (i := 3) (rfl) (by decide) (by decide) (v := iI (A 3)) ((congrFun (va_up_self _ _ _) _).trans ((pk_un (by omega)).trans (hA 3 (by decide)))) d_Bo_partBlock_27 ?_
    refine lv_iload hx hb d_Bo_partBlock_28 (lv_at hl 7 rfl) ?_
    refine st_calli (np := 2) hC (c_Ma_max l (A 3) (eb 6) (by omega) (by omega) (by omega) (by omega)) ⟨wl_Bo_69, wt_Ma_max, wc_Ma_max, wn_Ma⟩ ⟨by decide, by decide, by decide +kernel⟩ ⟨by simp only [rmOf]; omega, by simp only [rmOf]; omega⟩ hl.1 rfl (rest := [.int 3, .ref (X.1 (18 + 3 * b + 2))]) rfl (Nat.le_of_ble_eq_true rfl) ⟨Nat.zero_le _, Nat.zero_le _⟩ d_Bo_partBlock_30 (fun rr hrr => ?_)
    subst hrr
    refine co_iast hC hK hM (18 + 3 * b + 2) (by omega) (fun f => cE_Du b f) 3 (i := 3) (x := iI (mx (A 3) (eb 6))) (rfl) (by decide) (by decide) d_Bo_partBlock_33 (fun H locs hM => ?_)
    rw [va_up_self _ _ _] at hM
    rw [bx_uu] at hM
    refine lv_aload_n hx hb d_Bo_partBlock_34 rfl (lv_at hl 0 rfl) ?_
    refine rd_get hC in_Bo hK hM.1 (18 + 3 * b) (cw_he (by omega) (cE_B b)) rfl 0 (by decide) wf_Bo_25 rfl (v := .ref (X.2.1 (18 + 3 * b))) (rfl) d_Bo_partBlock_35 ?_
    refine lv_iload_n hx hb d_Bo_partBlock_38 rfl (lv_at hl 1 rfl) ?_
    refine lv_iload_n hx hb d_Bo_partBlock_39 rfl (lv_at hl 2 rfl) ?_
    refine lv_iload_n hx hb d_Bo_partBlock_40 rfl (lv_at hl 3 rfl) ?_
    refine lv_iload hx hb d_Bo_partBlock_41 (lv_at hl 4 rfl) ?_
    refine lv_iload hx hb d_Bo_partBlock_43 (lv_at hl 5 rfl) ?_
    refine lv_iload hx hb d_Bo_partBlock_45 (lv_at hl 6 rfl) ?_
    refine lv_iconst (v := 1) hx hb d_Bo_partBlock_47 (by decide) ?_
    have hF : FT (cw cT X I (va_up a (18 + 3 * b + 2) (upd (upd (a (18 + 3 * b + 2)) 4 (iI ((A 4) + 1))) 3 (iI (mx (A 3) (eb 6)))))) t.2.1 t.2.2.1 10 0 (X.2.1 (18 + 3 * b)) := FT_up hF9
    refine fo_call (np := 7) hC hK hM.1 (VA_b l D cT _ hrp 10 0 _ (bxe eb) 1 (Or.inr rfl) (by decide) hF (bxe_ok hv).1 (bxe_ok hv).2) ⟨wl_Bo_74, wq_Fo_bound⟩ wD_bound ⟨by decide, by decide, by decide +kernel⟩ ⟨by simp only [rmOf]; omega, by simp only [rmOf]; omega⟩ hl.1 rfl (rest := []) rfl (Nat.le_of_ble_eq_true rfl) ⟨Nat.zero_le _, Nat.zero_le _⟩ d_Bo_partBlock_48 (fun rr hrr => ?_)
    subst hrr
    refine topi_eq (y := iI ((spT t (bxe eb)).2)) (by rw [hE]; rfl) ?_
    refine zz_ge hx hb ((spT t (bxe eb)).2) (by omega) (by omega) d_Bo_partBlock_51 (tgt := 58) (by decide) (fun h42 => ?_) (fun h42 => ?_)
    · skip
      refine lv_iconst (v := 0) hx hb d_Bo_partBlock_58 (by decide) ?_
      refine lv_istore (lv' := [(8, .int 0), (0, .ref (X.1 (18 + 3 * b))), (1, .int (iI (eb 0))), (2, .int (iI (eb 1))), (3, .int (iI (eb 2))), (4, .int (iI (eb 3))), (5, .int (iI (eb 4))), (6, .int (iI (eb 5))), (7, .int (iI (eb 6)))]) hx hb d_Bo_partBlock_59 hl (by decide) rfl (fun ls hl => ?_)
      refine lv_iload_n hx hb d_Bo_partBlock_61 rfl (lv_at hl 2 rfl) ?_
      refine lv_iload hx hb d_Bo_partBlock_62 (lv_at hl 5 rfl) ?_
      refine zc_ne hx hb (eb 0) (eb 3) (by omega) (by omega) (by omega) (by omega) d_Bo_partBlock_64 (tgt := 83) (by decide) (fun h43 => ?_) (fun h43 => ?_)
      · skip
        refine lv_iconst (v := 0) hx hb d_Bo_partBlock_83 (by decide) ?_
        refine lv_istore (lv' := [(9, .int 0), (8, .int 0), (0, .ref (X.1 (18 + 3 * b))), (1, .int (iI (eb 0))), (2, .int (iI (eb 1))), (3, .int (iI (eb 2))), (4, .int (iI (eb 3))), (5, .int (iI (eb 4))), (6, .int (iI (eb 5))), (7, .int (iI (eb 6)))]) hx hb d_Bo_partBlock_84 hl (by decide) rfl (fun ls hl => ?_)
        refine lv_iload hx hb d_Bo_partBlock_86 (lv_at hl 1 rfl) ?_
        refine lv_if_ne (tgt := 132) hx hb d_Bo_partBlock_88 (by decide) (fun h44 => ?_) (fun h44 => ?_)
        · exact absurd h44 (by decide)
        · skip
          refine lv_iload hx hb d_Bo_partBlock_91 (lv_at hl 0 rfl) ?_
          refine lv_if_ne (tgt := 132) hx hb d_Bo_partBlock_93 (by decide) (fun h45 => ?_) (fun h45 => ?_)
          · exact absurd h45 (by decide)
          · skip
            refine lv_aload_n hx hb d_Bo_partBlock_96 rfl (lv_at hl 2 rfl) ?_
            refine rd_get hC in_Bo hK hM.1 (18 + 3 * b) (cw_he (by omega) (cE_B b)) rfl 0 (by decide) wf_Bo_25 rfl (v := .ref (X.2.1 (18 + 3 * b))) (rfl) d_Bo_partBlock_97 ?_
            refine lv_iload_n hx hb d_Bo_partBlock_100 rfl (lv_at hl 3 rfl) ?_
            refine lv_iload_n hx hb d_Bo_partBlock_101 rfl (lv_at hl 4 rfl) ?_
            refine lv_iload_n hx hb d_Bo_partBlock_102 rfl (lv_at hl 5 rfl) ?_
            refine lv_iload hx hb d_Bo_partBlock_103 (lv_at hl 6 rfl) ?_
            refine lv_iload hx hb d_Bo_partBlock_105 (lv_at hl 7 rfl) ?_
            refine lv_iload hx hb d_Bo_partBlock_107 (lv_at hl 8 rfl) ?_
            refine lv_iconst (v := 0) hx hb d_Bo_partBlock_109 (by decide) ?_
            have hF : FT (cw cT X I (va_up a (18 + 3 * b + 2) (upd (upd (a (18 + 3 * b + 2)) 4 (iI ((A 4) + 1))) 3 (iI (mx (A 3) (eb 6)))))) t.2.1 t.2.2.1 10 0 (X.2.1 (18 + 3 * b)) := FT_up hF9
            refine fo_call (np := 7) hC hK hM.1 (VA_b l D cT _ hrp 10 0 _ (bxe eb) 0 (Or.inl rfl) (by decide) hF (bxe_ok hv).1 (bxe_ok hv).2) ⟨wl_Bo_74, wq_Fo_bound⟩ wD_bound ⟨by decide, by decide, by decide +kernel⟩ ⟨by simp only [rmOf]; omega, by simp only [rmOf]; omega⟩ hl.1 rfl (rest := []) rfl (Nat.le_of_ble_eq_true rfl) ⟨Nat.zero_le _, Nat.zero_le _⟩ d_Bo_partBlock_110 (fun rr hrr => ?_)
            subst hrr
            refine topi_eq (y := iI ((spT t (bxe eb)).1)) (by rw [hE]; rfl) ?_
            refine zz_ge hx hb ((spT t (bxe eb)).1) (by omega) (by omega) d_Bo_partBlock_113 (tgt := 132) (by decide) (fun h46 => ?_) (fun h46 => ?_)
            · skip
              refine lv_aload_n hx hb d_Bo_partBlock_132 rfl (lv_at hl 2 rfl) ?_
              refine rd_get hC in_Bo hK hM.1 (18 + 3 * b) (cw_he (by omega) (cE_B b)) rfl 4 (by decide) wf_Bo_19 rfl (v := .ref (X.1 (18 + 3 * b + 2))) (rfl) d_Bo_partBlock_133 ?_
              refine lv_iconst (v := 0) hx hb d_Bo_partBlock_136 (by decide) ?_
              refine lv_dup2_11 hx hb d_Bo_partBlock_137 rfl rfl ?_
              refine rd_iald hC hK hM.1 (18 + 3 * b + 2) (cw_he (by omega) (cE_D b)) 0 (i := 0) (rfl) (by decide) (by decide) (v := iI (A 0)) ((congrFun (va_up_self _ _ _) _).trans ((pk_un (by omega)).trans ((pk_un (by omega)).trans (hA 0 (by decide))))) d_Bo_partBlock_138 ?_
              refine lv_iconst (v := 1) hx hb d_Bo_partBlock_139 (by decide) ?_
              refine lv_iadd hx hb d_Bo_partBlock_140 ?_
              refine topi_eq (iI_add (A 0) 1) ?_
              refine co_iast hC hK hM (18 + 3 * b + 2) (by omega) (fun f => cE_Du b f) 0 (i := 0) (x := iI ((A 0) + 1)) (rfl) (by decide) (by decide) d_Bo_partBlock_141 (fun H locs hM => ?_)
              rw [va_up_self _ _ _] at hM
              rw [bx_uu] at hM
              refine lv_iload hx hb d_Bo_partBlock_142 (lv_at hl 1 rfl) ?_
              refine lv_if_eq (tgt := 186) hx hb d_Bo_partBlock_144 (by decide) (fun h47 => ?_) (fun h47 => ?_)
              · skip
                refine hret _ _ _ _ _ _ d_Bo_partBlock_186 hM ?_
                refine ⟨_, rfl, ?_⟩
                rw [pae_leaf hv (by omega)]
                exact lfP_out hA (by omega)
              · exact absurd h47 (by decide)
            · skip
              refine lv_aload_n hx hb d_Bo_partBlock_116 rfl (lv_at hl 2 rfl) ?_
              refine lv_iload_n hx hb d_Bo_partBlock_117 rfl (lv_at hl 3 rfl) ?_
              refine lv_iload_n hx hb d_Bo_partBlock_118 rfl (lv_at hl 4 rfl) ?_
              refine lv_iload_n hx hb d_Bo_partBlock_119 rfl (lv_at hl 5 rfl) ?_
              refine lv_iload hx hb d_Bo_partBlock_120 (lv_at hl 6 rfl) ?_
              refine lv_iload hx hb d_Bo_partBlock_122 (lv_at hl 7 rfl) ?_
              refine lv_iload hx hb d_Bo_partBlock_124 (lv_at hl 8 rfl) ?_
              refine lv_iload hx hb d_Bo_partBlock_126 (lv_at hl 9 rfl) ?_
              have hq9 := pae_part hv (t := t) (by omega)
              have h39 : 0 ≤ Ap A eb 3 ∧ Ap A eb 3 ≤ 4 := by show 0 ≤ mx (A 3) (eb 6) ∧ mx (A 3) (eb 6) ≤ 4; unfold mx; split <;> omega
              refine co_callv (np := 7) hC hK hM (k := 18 + 3 * b) (by omega) (cE_B b) rfl (hPT (va_up a (18 + 3 * b + 2) (upd (upd (a (18 + 3 * b + 2)) 4 (iI ((A 4) + 1))) 3 (iI (mx (A 3) (eb 6))))) (Ap A eb) (by rw [va_up_self]; exact prP_0 hA) h39 hq9.2) rfl ⟨wl_Bo_78, wi_Bo_partInTwos, ws_Bo_partInTwos, wc_Bo_partInTwos, wn_Bo⟩ ⟨by decide, by decide, by decide +kernel⟩ ⟨by simp only [rmOf]; omega, by simp only [rmOf]; omega⟩ hl.1 rfl (rest := []) rfl (Nat.le_of_ble_eq_true rfl) ⟨Nat.zero_le _, Nat.zero_le _⟩ d_Bo_partBlock_128 (fun I1 a1 H locs hp1 hM => ?_)
              obtain ⟨f9, e9, hf9⟩ := hp1
              cases e9
              rw [bx_uu] at hM
              refine hret _ _ _ _ _ _ d_Bo_partBlock_131 hM ?_
              refine ⟨f9, rfl, fun i9 hi9 => (hf9 i9 hi9).trans (congrArg iI (prP_1 hv (by omega) hi9))⟩
      · skip
        refine lv_iload_n hx hb d_Bo_partBlock_67 rfl (lv_at hl 3 rfl) ?_
        refine lv_iload hx hb d_Bo_partBlock_68 (lv_at hl 6 rfl) ?_
        refine zc_ne hx hb (eb 1) (eb 4) (by omega) (by omega) (by omega) (by omega) d_Bo_partBlock_70 (tgt := 83) (by decide) (fun h48 => ?_) (fun h48 => ?_)
        · skip
          refine lv_iconst (v := 0) hx hb d_Bo_partBlock_83 (by decide) ?_
          refine lv_istore (lv' := [(9, .int 0), (8, .int 0), (0, .ref (X.1 (18 + 3 * b))), (1, .int (iI (eb 0))), (2, .int (iI (eb 1))), (3, .int (iI (eb 2))), (4, .int (iI (eb 3))), (5, .int (iI (eb 4))), (6, .int (iI (eb 5))), (7, .int (iI (eb 6)))]) hx hb d_Bo_partBlock_84 hl (by decide) rfl (fun ls hl => ?_)
          refine lv_iload hx hb d_Bo_partBlock_86 (lv_at hl 1 rfl) ?_
          refine lv_if_ne (tgt := 132) hx hb d_Bo_partBlock_88 (by decide) (fun h49 => ?_) (fun h49 => ?_)
          · exact absurd h49 (by decide)
          · skip
            refine lv_iload hx hb d_Bo_partBlock_91 (lv_at hl 0 rfl) ?_
            refine lv_if_ne (tgt := 132) hx hb d_Bo_partBlock_93 (by decide) (fun h50 => ?_) (fun h50 => ?_)
            · exact absurd h50 (by decide)
            · skip
              refine lv_aload_n hx hb d_Bo_partBlock_96 rfl (lv_at hl 2 rfl) ?_
              refine rd_get hC in_Bo hK hM.1 (18 + 3 * b) (cw_he (by omega) (cE_B b)) rfl 0 (by decide) wf_Bo_25 rfl (v := .ref (X.2.1 (18 + 3 * b))) (rfl) d_Bo_partBlock_97 ?_
              refine lv_iload_n hx hb d_Bo_partBlock_100 rfl (lv_at hl 3 rfl) ?_
              refine lv_iload_n hx hb d_Bo_partBlock_101 rfl (lv_at hl 4 rfl) ?_
              refine lv_iload_n hx hb d_Bo_partBlock_102 rfl (lv_at hl 5 rfl) ?_
              refine lv_iload hx hb d_Bo_partBlock_103 (lv_at hl 6 rfl) ?_
              refine lv_iload hx hb d_Bo_partBlock_105 (lv_at hl 7 rfl) ?_
              refine lv_iload hx hb d_Bo_partBlock_107 (lv_at hl 8 rfl) ?_
              refine lv_iconst (v := 0) hx hb d_Bo_partBlock_109 (by decide) ?_
              have hF : FT (cw cT X I (va_up a (18 + 3 * b + 2) (upd (upd (a (18 + 3 * b + 2)) 4 (iI ((A 4) + 1))) 3 (iI (mx (A 3) (eb 6)))))) t.2.1 t.2.2.1 10 0 (X.2.1 (18 + 3 * b)) := FT_up hF9
              refine fo_call (np := 7) hC hK hM.1 (VA_b l D cT _ hrp 10 0 _ (bxe eb) 0 (Or.inl rfl) (by decide) hF (bxe_ok hv).1 (bxe_ok hv).2) ⟨wl_Bo_74, wq_Fo_bound⟩ wD_bound ⟨by decide, by decide, by decide +kernel⟩ ⟨by simp only [rmOf]; omega, by simp only [rmOf]; omega⟩ hl.1 rfl (rest := []) rfl (Nat.le_of_ble_eq_true rfl) ⟨Nat.zero_le _, Nat.zero_le _⟩ d_Bo_partBlock_110 (fun rr hrr => ?_)
              subst hrr
              refine topi_eq (y := iI ((spT t (bxe eb)).1)) (by rw [hE]; rfl) ?_
              refine zz_ge hx hb ((spT t (bxe eb)).1) (by omega) (by omega) d_Bo_partBlock_113 (tgt := 132) (by decide) (fun h51 => ?_) (fun h51 => ?_)
              · skip
                refine lv_aload_n hx hb d_Bo_partBlock_132 rfl (lv_at hl 2 rfl) ?_
                refine rd_get hC in_Bo hK hM.1 (18 + 3 * b) (cw_he (by omega) (cE_B b)) rfl 4 (by decide) wf_Bo_19 rfl (v := .ref (X.1 (18 + 3 * b + 2))) (rfl) d_Bo_partBlock_133 ?_
                refine lv_iconst (v := 0) hx hb d_Bo_partBlock_136 (by decide) ?_
                refine lv_dup2_11 hx hb d_Bo_partBlock_137 rfl rfl ?_
                refine rd_iald hC hK hM.1 (18 + 3 * b + 2) (cw_he (by omega) (cE_D b)) 0 (i := 0) (rfl) (by decide) (by decide) (v := iI (A 0)) ((congrFun (va_up_self _ _ _) _).trans ((pk_un (by omega)).trans ((pk_un (by omega)).trans (hA 0 (by decide))))) d_Bo_partBlock_138 ?_
                refine lv_iconst (v := 1) hx hb d_Bo_partBlock_139 (by decide) ?_
                refine lv_iadd hx hb d_Bo_partBlock_140 ?_
                refine topi_eq (iI_add (A 0) 1) ?_
                refine co_iast hC hK hM (18 + 3 * b + 2) (by omega) (fun f => cE_Du b f) 0 (i := 0) (x := iI ((A 0) + 1)) (rfl) (by decide) (by decide) d_Bo_partBlock_141 (fun H locs hM => ?_)
                rw [va_up_self _ _ _] at hM
                rw [bx_uu] at hM
                refine lv_iload hx hb d_Bo_partBlock_142 (lv_at hl 1 rfl) ?_
                refine lv_if_eq (tgt := 186) hx hb d_Bo_partBlock_144 (by decide) (fun h52 => ?_) (fun h52 => ?_)
                · skip
                  refine hret _ _ _ _ _ _ d_Bo_partBlock_186 hM ?_
                  refine ⟨_, rfl, ?_⟩
                  rw [pae_leaf hv (by omega)]
                  exact lfP_out hA (by omega)
                · exact absurd h52 (by decide)
              · skip
                refine lv_aload_n hx hb d_Bo_partBlock_116 rfl (lv_at hl 2 rfl) ?_
                refine lv_iload_n hx hb d_Bo_partBlock_117 rfl (lv_at hl 3 rfl) ?_
                refine lv_iload_n hx hb d_Bo_partBlock_118 rfl (lv_at hl 4 rfl) ?_
                refine lv_iload_n hx hb d_Bo_partBlock_119 rfl (lv_at hl 5 rfl) ?_
                refine lv_iload hx hb d_Bo_partBlock_120 (lv_at hl 6 rfl) ?_
                refine lv_iload hx hb d_Bo_partBlock_122 (lv_at hl 7 rfl) ?_
                refine lv_iload hx hb d_Bo_partBlock_124 (lv_at hl 8 rfl) ?_
                refine lv_iload hx hb d_Bo_partBlock_126 (lv_at hl 9 rfl) ?_
                have hq9 := pae_part hv (t := t) (by omega)
                have h39 : 0 ≤ Ap A eb 3 ∧ Ap A eb 3 ≤ 4 := by show 0 ≤ mx (A 3) (eb 6) ∧ mx (A 3) (eb 6) ≤ 4; unfold mx; split <;> omega
                refine co_callv (np := 7) hC hK hM (k := 18 + 3 * b) (by omega) (cE_B b) rfl (hPT (va_up a (18 + 3 * b + 2) (upd (upd (a (18 + 3 * b + 2)) 4 (iI ((A 4) + 1))) 3 (iI (mx (A 3) (eb 6))))) (Ap A eb) (by rw [va_up_self]; exact prP_0 hA) h39 hq9.2) rfl ⟨wl_Bo_78, wi_Bo_partInTwos, ws_Bo_partInTwos, wc_Bo_partInTwos, wn_Bo⟩ ⟨by decide, by decide, by decide +kernel⟩ ⟨by simp only [rmOf]; omega, by simp only [rmOf]; omega⟩ hl.1 rfl (rest := []) rfl (Nat.le_of_ble_eq_true rfl) ⟨Nat.zero_le _, Nat.zero_le _⟩ d_Bo_partBlock_128 (fun I1 a1 H locs hp1 hM => ?_)
                obtain ⟨f9, e9, hf9⟩ := hp1
                cases e9
                rw [bx_uu] at hM
                refine hret _ _ _ _ _ _ d_Bo_partBlock_131 hM ?_
                refine ⟨f9, rfl, fun i9 hi9 => (hf9 i9 hi9).trans (congrArg iI (prP_1 hv (by omega) hi9))⟩
        · skip
          refine lv_iload_n hx hb d_Bo_partBlock_73 rfl (lv_at hl 4 rfl) ?_
          refine lv_iload hx hb d_Bo_partBlock_74 (lv_at hl 7 rfl) ?_
          refine zc_ne hx hb (eb 2) (eb 5) (by omega) (by omega) (by omega) (by omega) d_Bo_partBlock_76 (tgt := 83) (by decide) (fun h53 => ?_) (fun h53 => ?_)
          · skip
            refine lv_iconst (v := 0) hx hb d_Bo_partBlock_83 (by decide) ?_
            refine lv_istore (lv' := [(9, .int 0), (8, .int 0), (0, .ref (X.1 (18 + 3 * b))), (1, .int (iI (eb 0))), (2, .int (iI (eb 1))), (3, .int (iI (eb 2))), (4, .int (iI (eb 3))), (5, .int (iI (eb 4))), (6, .int (iI (eb 5))), (7, .int (iI (eb 6)))]) hx hb d_Bo_partBlock_84 hl (by decide) rfl (fun ls hl => ?_)
            refine lv_iload hx hb d_Bo_partBlock_86 (lv_at hl 1 rfl) ?_
            refine lv_if_ne (tgt := 132) hx hb d_Bo_partBlock_88 (by decide) (fun h54 => ?_) (fun h54 => ?_)
            · exact absurd h54 (by decide)
            · skip
              refine lv_iload hx hb d_Bo_partBlock_91 (lv_at hl 0 rfl) ?_
              refine lv_if_ne (tgt := 132) hx hb d_Bo_partBlock_93 (by decide) (fun h55 => ?_) (fun h55 => ?_)
              · exact absurd h55 (by decide)
              · skip
                refine lv_aload_n hx hb d_Bo_partBlock_96 rfl (lv_at hl 2 rfl) ?_
                refine rd_get hC in_Bo hK hM.1 (18 + 3 * b) (cw_he (by omega) (cE_B b)) rfl 0 (by decide) wf_Bo_25 rfl (v := .ref (X.2.1 (18 + 3 * b))) (rfl) d_Bo_partBlock_97 ?_
                refine lv_iload_n hx hb d_Bo_partBlock_100 rfl (lv_at hl 3 rfl) ?_
                refine lv_iload_n hx hb d_Bo_partBlock_101 rfl (lv_at hl 4 rfl) ?_
                refine lv_iload_n hx hb d_Bo_partBlock_102 rfl (lv_at hl 5 rfl) ?_
                refine lv_iload hx hb d_Bo_partBlock_103 (lv_at hl 6 rfl) ?_
                refine lv_iload hx hb d_Bo_partBlock_105 (lv_at hl 7 rfl) ?_
                refine lv_iload hx hb d_Bo_partBlock_107 (lv_at hl 8 rfl) ?_
                refine lv_iconst (v := 0) hx hb d_Bo_partBlock_109 (by decide) ?_
                have hF : FT (cw cT X I (va_up a (18 + 3 * b + 2) (upd (upd (a (18 + 3 * b + 2)) 4 (iI ((A 4) + 1))) 3 (iI (mx (A 3) (eb 6)))))) t.2.1 t.2.2.1 10 0 (X.2.1 (18 + 3 * b)) := FT_up hF9
                refine fo_call (np := 7) hC hK hM.1 (VA_b l D cT _ hrp 10 0 _ (bxe eb) 0 (Or.inl rfl) (by decide) hF (bxe_ok hv).1 (bxe_ok hv).2) ⟨wl_Bo_74, wq_Fo_bound⟩ wD_bound ⟨by decide, by decide, by decide +kernel⟩ ⟨by simp only [rmOf]; omega, by simp only [rmOf]; omega⟩ hl.1 rfl (rest := []) rfl (Nat.le_of_ble_eq_true rfl) ⟨Nat.zero_le _, Nat.zero_le _⟩ d_Bo_partBlock_110 (fun rr hrr => ?_)
                subst hrr
                refine topi_eq (y := iI ((spT t (bxe eb)).1)) (by rw [hE]; rfl) ?_
                refine zz_ge hx hb ((spT t (bxe eb)).1) (by omega) (by omega) d_Bo_partBlock_113 (tgt := 132) (by decide) (fun h56 => ?_) (fun h56 => ?_)
                · skip
                  refine lv_aload_n hx hb d_Bo_partBlock_132 rfl (lv_at hl 2 rfl) ?_
                  refine rd_get hC in_Bo hK hM.1 (18 + 3 * b) (cw_he (by omega) (cE_B b)) rfl 4 (by decide) wf_Bo_19 rfl (v := .ref (X.1 (18 + 3 * b + 2))) (rfl) d_Bo_partBlock_133 ?_
                  refine lv_iconst (v := 0) hx hb d_Bo_partBlock_136 (by decide) ?_
                  refine lv_dup2_11 hx hb d_Bo_partBlock_137 rfl rfl ?_
                  refine rd_iald hC hK hM.1 (18 + 3 * b + 2) (cw_he (by omega) (cE_D b)) 0 (i := 0) (rfl) (by decide) (by decide) (v := iI (A 0)) ((congrFun (va_up_self _ _ _) _).trans ((pk_un (by omega)).trans ((pk_un (by omega)).trans (hA 0 (by decide))))) d_Bo_partBlock_138 ?_
                  refine lv_iconst (v := 1) hx hb d_Bo_partBlock_139 (by decide) ?_
                  refine lv_iadd hx hb d_Bo_partBlock_140 ?_
                  refine topi_eq (iI_add (A 0) 1) ?_
                  refine co_iast hC hK hM (18 + 3 * b + 2) (by omega) (fun f => cE_Du b f) 0 (i := 0) (x := iI ((A 0) + 1)) (rfl) (by decide) (by decide) d_Bo_partBlock_141 (fun H locs hM => ?_)
                  rw [va_up_self _ _ _] at hM
                  rw [bx_uu] at hM
                  refine lv_iload hx hb d_Bo_partBlock_142 (lv_at hl 1 rfl) ?_
                  refine lv_if_eq (tgt := 186) hx hb d_Bo_partBlock_144 (by decide) (fun h57 => ?_) (fun h57 => ?_)
                  · skip
                    refine hret _ _ _ _ _ _ d_Bo_partBlock_186 hM ?_
                    refine ⟨_, rfl, ?_⟩
                    rw [pae_leaf hv (by omega)]
                    exact lfP_out hA (by omega)
                  · exact absurd h57 (by decide)
                · skip
                  refine lv_aload_n hx hb d_Bo_partBlock_116 rfl (lv_at hl 2 rfl) ?_
                  refine lv_iload_n hx hb d_Bo_partBlock_117 rfl (lv_at hl 3 rfl) ?_
                  refine lv_iload_n hx hb d_Bo_partBlock_118 rfl (lv_at hl 4 rfl) ?_
                  refine lv_iload_n hx hb d_Bo_partBlock_119 rfl (lv_at hl 5 rfl) ?_
                  refine lv_iload hx hb d_Bo_partBlock_120 (lv_at hl 6 rfl) ?_
                  refine lv_iload hx hb d_Bo_partBlock_122 (lv_at hl 7 rfl) ?_
                  refine lv_iload hx hb d_Bo_partBlock_124 (lv_at hl 8 rfl) ?_
                  refine lv_iload hx hb d_Bo_partBlock_126 (lv_at hl 9 rfl) ?_
                  have hq9 := pae_part hv (t := t) (by omega)
                  have h39 : 0 ≤ Ap A eb 3 ∧ Ap A eb 3 ≤ 4 := by show 0 ≤ mx (A 3) (eb 6) ∧ mx (A 3) (eb 6) ≤ 4; unfold mx; split <;> omega
                  refine co_callv (np := 7) hC hK hM (k := 18 + 3 * b) (by omega) (cE_B b) rfl (hPT (va_up a (18 + 3 * b + 2) (upd (upd (a (18 + 3 * b + 2)) 4 (iI ((A 4) + 1))) 3 (iI (mx (A 3) (eb 6))))) (Ap A eb) (by rw [va_up_self]; exact prP_0 hA) h39 hq9.2) rfl ⟨wl_Bo_78, wi_Bo_partInTwos, ws_Bo_partInTwos, wc_Bo_partInTwos, wn_Bo⟩ ⟨by decide, by decide, by decide +kernel⟩ ⟨by simp only [rmOf]; omega, by simp only [rmOf]; omega⟩ hl.1 rfl (rest := []) rfl (Nat.le_of_ble_eq_true rfl) ⟨Nat.zero_le _, Nat.zero_le _⟩ d_Bo_partBlock_128 (fun I1 a1 H locs hp1 hM => ?_)
                  obtain ⟨f9, e9, hf9⟩ := hp1
                  cases e9
                  rw [bx_uu] at hM
                  refine hret _ _ _ _ _ _ d_Bo_partBlock_131 hM ?_
                  refine ⟨f9, rfl, fun i9 hi9 => (hf9 i9 hi9).trans (congrArg iI (prP_1 hv (by omega) hi9))⟩
          · skip
            refine lv_iconst (v := 1) hx hb d_Bo_partBlock_79 (by decide) ?_
            refine lv_goto (tgt := 84) hx hb d_Bo_partBlock_80 (by decide) ?_
            refine lv_istore (lv' := [(9, .int 1), (8, .int 0), (0, .ref (X.1 (18 + 3 * b))), (1, .int (iI (eb 0))), (2, .int (iI (eb 1))), (3, .int (iI (eb 2))), (4, .int (iI (eb 3))), (5, .int (iI (eb 4))), (6, .int (iI (eb 5))), (7, .int (iI (eb 6)))]) hx hb d_Bo_partBlock_84 hl (by decide) rfl (fun ls hl => ?_)
            refine lv_iload hx hb d_Bo_partBlock_86 (lv_at hl 1 rfl) ?_
            refine lv_if_ne (tgt := 132) hx hb d_Bo_partBlock_88 (by decide) (fun h58 => ?_) (fun h58 => ?_)
            · exact absurd h58 (by decide)
            · skip
              refine lv_iload hx hb d_Bo_partBlock_91 (lv_at hl 0 rfl) ?_
              refine lv_if_ne (tgt := 132) hx hb d_Bo_partBlock_93 (by decide) (fun h59 => ?_) (fun h59 => ?_)
              · skip
                refine lv_aload_n hx hb d_Bo_partBlock_132 rfl (lv_at hl 2 rfl) ?_
                refine rd_get hC in_Bo hK hM.1 (18 + 3 * b) (cw_he (by omega) (cE_B b)) rfl 4 (by decide) wf_Bo_19 rfl (v := .ref (X.1 (18 + 3 * b + 2))) (rfl) d_Bo_partBlock_133 ?_
                refine lv_iconst (v := 0) hx hb d_Bo_partBlock_136 (by decide) ?_
                refine lv_dup2_11 hx hb d_Bo_partBlock_137 rfl rfl ?_
                refine rd_iald hC hK hM.1 (18 + 3 * b + 2) (cw_he (by omega) (cE_D b)) 0 (i := 0) (rfl) (by decide) (by decide) (v := iI (A 0)) ((congrFun (va_up_self _ _ _) _).trans ((pk_un (by omega)).trans ((pk_un (by omega)).trans (hA 0 (by decide))))) d_Bo_partBlock_138 ?_
                refine lv_iconst (v := 1) hx hb d_Bo_partBlock_139 (by decide) ?_
                refine lv_iadd hx hb d_Bo_partBlock_140 ?_
                refine topi_eq (iI_add (A 0) 1) ?_
                refine co_iast hC hK hM (18 + 3 * b + 2) (by omega) (fun f => cE_Du b f) 0 (i := 0) (x := iI ((A 0) + 1)) (rfl) (by decide) (by decide) d_Bo_partBlock_141 (fun H locs hM => ?_)
                rw [va_up_self _ _ _] at hM
                rw [bx_uu] at hM
                refine lv_iload hx hb d_Bo_partBlock_142 (lv_at hl 1 rfl) ?_
                refine lv_if_eq (tgt := 186) hx hb d_Bo_partBlock_144 (by decide) (fun h60 => ?_) (fun h60 => ?_)
                · skip
                  refine hret _ _ _ _ _ _ d_Bo_partBlock_186 hM ?_
                  refine ⟨_, rfl, ?_⟩
                  rw [pae_leaf hv (by omega)]
                  exact lfP_out hA (by omega)
                · exact absurd h60 (by decide)
              · exact absurd h59 (by decide)
    · skip
      refine lv_iconst (v := 1) hx hb d_Bo_partBlock_54 (by decide) ?_
      refine lv_goto (tgt := 59) hx hb d_Bo_partBlock_55 (by decide) ?_
      refine lv_istore (lv' := [(8, .int 1), (0, .ref (X.1 (18 + 3 * b))), (1, .int (iI (eb 0))), (2, .int (iI (eb 1))), (3, .int (iI (eb 2))), (4, .int (iI (eb 3))), (5, .int (iI (eb 4))), (6, .int (iI (eb 5))), (7, .int (iI (eb 6)))]) hx hb d_Bo_partBlock_59 hl (by decide) rfl (fun ls hl => ?_)
      refine lv_iload_n hx hb d_Bo_partBlock_61 rfl (lv_at hl 2 rfl) ?_
      refine lv_iload hx hb d_Bo_partBlock_62 (lv_at hl 5 rfl) ?_
      refine zc_ne hx hb (eb 0) (eb 3) (by omega) (by omega) (by omega) (by omega) d_Bo_partBlock_64 (tgt := 83) (by decide) (fun h61 => ?_) (fun h61 => ?_)
      · skip
        refine lv_iconst (v := 0) hx hb d_Bo_partBlock_83 (by decide) ?_
        refine lv_istore (lv' := [(9, .int 0), (8, .int 1), (0, .ref (X.1 (18 + 3 * b))), (1, .int (iI (eb 0))), (2, .int (iI (eb 1))), (3, .int (iI (eb 2))), (4, .int (iI (eb 3))), (5, .int (iI (eb 4))), (6, .int (iI (eb 5))), (7, .int (iI (eb 6)))]) hx hb d_Bo_partBlock_84 hl (by decide) rfl (fun ls hl => ?_)
        refine lv_iload hx hb d_Bo_partBlock_86 (lv_at hl 1 rfl) ?_
        refine lv_if_ne (tgt := 132) hx hb d_Bo_partBlock_88 (by decide) (fun h62 => ?_) (fun h62 => ?_)
        · skip
          refine lv_aload_n hx hb d_Bo_partBlock_132 rfl (lv_at hl 2 rfl) ?_
          refine rd_get hC in_Bo hK hM.1 (18 + 3 * b) (cw_he (by omega) (cE_B b)) rfl 4 (by decide) wf_Bo_19 rfl (v := .ref (X.1 (18 + 3 * b + 2))) (rfl) d_Bo_partBlock_133 ?_
          refine lv_iconst (v := 0) hx hb d_Bo_partBlock_136 (by decide) ?_
          refine lv_dup2_11 hx hb d_Bo_partBlock_137 rfl rfl ?_
          refine rd_iald hC hK hM.1 (18 + 3 * b + 2) (cw_he (by omega) (cE_D b)) 0 (i := 0) (rfl) (by decide) (by decide) (v := iI (A 0)) ((congrFun (va_up_self _ _ _) _).trans ((pk_un (by omega)).trans ((pk_un (by omega)).trans (hA 0 (by decide))))) d_Bo_partBlock_138 ?_
          refine lv_iconst (v := 1) hx hb d_Bo_partBlock_139 (by decide) ?_
          refine lv_iadd hx hb d_Bo_partBlock_140 ?_
          refine topi_eq (iI_add (A 0) 1) ?_
          refine co_iast hC hK hM (18 + 3 * b + 2) (by omega) (fun f => cE_Du b f) 0 (i := 0) (x := iI ((A 0) + 1)) (rfl) (by decide) (by decide) d_Bo_partBlock_141 (fun H locs hM => ?_)
          rw [va_up_self _ _ _] at hM
          rw [bx_uu] at hM
          refine lv_iload hx hb d_Bo_partBlock_142 (lv_at hl 1 rfl) ?_
          refine lv_if_eq (tgt := 186) hx hb d_Bo_partBlock_144 (by decide) (fun h63 => ?_) (fun h63 => ?_)
          · exact absurd h63 (by decide)
          · skip
            refine lv_aload_n hx hb d_Bo_partBlock_147 rfl (lv_at hl 2 rfl) ?_
            refine rd_get hC in_Bo hK hM.1 (18 + 3 * b) (cw_he (by omega) (cE_B b)) rfl 4 (by decide) wf_Bo_19 rfl (v := .ref (X.1 (18 + 3 * b + 2))) (rfl) d_Bo_partBlock_148 ?_
            refine lv_iconst (v := 1) hx hb d_Bo_partBlock_151 (by decide) ?_
            refine lv_dup2_11 hx hb d_Bo_partBlock_152 rfl rfl ?_
            refine rd_iald hC hK hM.1 (18 + 3 * b + 2) (cw_he (by omega) (cE_D b)) 1 (i := 1) (rfl) (by decide) (by decide) (v := iI (A 1)) ((congrFun (va_up_self _ _ _) _).trans ((pk_un (by omega)).trans ((pk_un (by omega)).trans ((pk_un (by omega)).trans (hA 1 (by decide)))))) d_Bo_partBlock_153 ?_
            refine lv_iconst (v := 1) hx hb d_Bo_partBlock_154 (by decide) ?_
            refine lv_iadd hx hb d_Bo_partBlock_155 ?_
            refine topi_eq (iI_add (A 1) 1) ?_
            refine co_iast hC hK hM (18 + 3 * b + 2) (by omega) (fun f => cE_Du b f) 1 (i := 1) (x := iI ((A 1) + 1)) (rfl) (by decide) (by decide) d_Bo_partBlock_156 (fun H locs hM => ?_)
            rw [va_up_self _ _ _] at hM
            rw [bx_uu] at hM
            refine lv_aload_n hx hb d_Bo_partBlock_157 rfl (lv_at hl 2 rfl) ?_
            refine rd_get hC in_Bo hK hM.1 (18 + 3 * b) (cw_he (by omega) (cE_B b)) rfl 4 (by decide) wf_Bo_19 rfl (v := .ref (X.1 (18 + 3 * b + 2))) (rfl) d_Bo_partBlock_158 ?_
            refine lv_iconst (v := 2) hx hb d_Bo_partBlock_161 (by decide) ?_
            refine lv_dup2_11 hx hb d_Bo_partBlock_162 rfl rfl ?_
            refine rd_iald hC hK hM.1 (18 + 3 * b + 2) (cw_he (by omega) (cE_D b)) 2 (i := 2) (rfl) (by decide) (by decide) (v := iI (A 2)) ((congrFun (va_up_self _ _ _) _).trans ((pk_un (by omega)).trans ((pk_un (by omega)).trans ((pk_un (by omega)).trans ((pk_un (by omega)).trans (hA 2 (by decide))))))) d_Bo_partBlock_163 ?_
            refine lv_iload hx hb d_Bo_partBlock_164 (lv_at hl 6 rfl) ?_
            refine lv_iload_n hx hb d_Bo_partBlock_166 rfl (lv_at hl 3 rfl) ?_
            refine lv_isub hx hb d_Bo_partBlock_167 ?_
            refine topi_eq (iI_sub (eb 3) (eb 0)) ?_
            refine lv_iconst (v := 1) hx hb d_Bo_partBlock_168 (by decide) ?_
            refine lv_iadd hx hb d_Bo_partBlock_169 ?_
            refine topi_eq (iI_add ((eb 3) - (eb 0)) 1) ?_
            refine lv_iload hx hb d_Bo_partBlock_170 (lv_at hl 7 rfl) ?_
            refine lv_iload_n hx hb d_Bo_partBlock_172 rfl (lv_at hl 4 rfl) ?_
            refine lv_isub hx hb d_Bo_partBlock_173 ?_
            refine topi_eq (iI_sub (eb 4) (eb 1)) ?_
            refine lv_iconst (v := 1) hx hb d_Bo_partBlock_174 (by decide) ?_
            refine lv_iadd hx hb d_Bo_partBlock_175 ?_
            refine topi_eq (iI_add ((eb 4) - (eb 1)) 1) ?_
            refine lv_imul hx hb d_Bo_partBlock_176 ?_
            refine topi_eq (iI_mul (((eb 3) - (eb 0)) + 1) (((eb 4) - (eb 1)) + 1)) ?_
            refine lv_iload hx hb d_Bo_partBlock_177 (lv_at hl 8 rfl) ?_
            refine lv_iload_n hx hb d_Bo_partBlock_179 rfl (lv_at hl 5 rfl) ?_
            refine lv_isub hx hb d_Bo_partBlock_180 ?_
            refine topi_eq (iI_sub (eb 5) (eb 2)) ?_
            refine lv_iconst (v := 1) hx hb d_Bo_partBlock_181 (by decide) ?_
            refine lv_iadd hx hb d_Bo_partBlock_182 ?_
            refine topi_eq (iI_add ((eb 5) - (eb 2)) 1) ?_
            refine lv_imul hx hb d_Bo_partBlock_183 ?_
            refine topi_eq (iI_mul ((((eb 3) - (eb 0)) + 1) * (((eb 4) - (eb 1)) + 1)) (((eb 5) - (eb 2)) + 1)) ?_
            refine lv_iadd hx hb d_Bo_partBlock_184 ?_
            refine topi_eq (iI_add (A 2) (((((eb 3) - (eb 0)) + 1) * (((eb 4) - (eb 1)) + 1)) * (((eb 5) - (eb 2)) + 1))) ?_
            refine co_iast hC hK hM (18 + 3 * b + 2) (by omega) (fun f => cE_Du b f) 2 (i := 2) (x := iI ((A 2) + (((((eb 3) - (eb 0)) + 1) * (((eb 4) - (eb 1)) + 1)) * (((eb 5) - (eb 2)) + 1)))) (rfl) (by decide) (by decide) d_Bo_partBlock_185 (fun H locs hM => ?_)
            rw [va_up_self _ _ _] at hM
            rw [bx_uu] at hM
            refine hret _ _ _ _ _ _ d_Bo_partBlock_186 hM ?_
            refine ⟨_, rfl, ?_⟩
            rw [pae_leaf hv (by omega)]
            exact lfP_in hA (by omega)
        · exact absurd h62 (by decide)
      · skip
        refine lv_iload_n hx hb d_Bo_partBlock_67 rfl (lv_at hl 3 rfl) ?_
        refine lv_iload hx hb d_Bo_partBlock_68 (lv_at hl 6 rfl) ?_
        refine zc_ne hx hb (eb 1) (eb 4) (by omega) (by omega) (by omega) (by omega) d_Bo_partBlock_70 (tgt := 83) (by decide) (fun h64 => ?_) (fun h64 => ?_)
        · skip
          refine lv_iconst (v := 0) hx hb d_Bo_partBlock_83 (by decide) ?_
          refine lv_istore (lv' := [(9, .int 0), (8, .int 1), (0, .ref (X.1 (18 + 3 * b))), (1, .int (iI (eb 0))), (2, .int (iI (eb 1))), (3, .int (iI (eb 2))), (4, .int (iI (eb 3))), (5, .int (iI (eb 4))), (6, .int (iI (eb 5))), (7, .int (iI (eb 6)))]) hx hb d_Bo_partBlock_84 hl (by decide) rfl (fun ls hl => ?_)
          refine lv_iload hx hb d_Bo_partBlock_86 (lv_at hl 1 rfl) ?_
          refine lv_if_ne (tgt := 132) hx hb d_Bo_partBlock_88 (by decide) (fun h65 => ?_) (fun h65 => ?_)
          · skip
            refine lv_aload_n hx hb d_Bo_partBlock_132 rfl (lv_at hl 2 rfl) ?_
            refine rd_get hC in_Bo hK hM.1 (18 + 3 * b) (cw_he (by omega) (cE_B b)) rfl 4 (by decide) wf_Bo_19 rfl (v := .ref (X.1 (18 + 3 * b + 2))) (rfl) d_Bo_partBlock_133 ?_
            refine lv_iconst (v := 0) hx hb d_Bo_partBlock_136 (by decide) ?_
            refine lv_dup2_11 hx hb d_Bo_partBlock_137 rfl rfl ?_
            refine rd_iald hC hK hM.1 (18 + 3 * b + 2) (cw_he (by omega) (cE_D b)) 0 (i := 0) (rfl) (by decide) (by decide) (v := iI (A 0)) ((congrFun (va_up_self _ _ _) _).trans ((pk_un (by omega)).trans ((pk_un (by omega)).trans (hA 0 (by decide))))) d_Bo_partBlock_138 ?_
            refine lv_iconst (v := 1) hx hb d_Bo_partBlock_139 (by decide) ?_
            refine lv_iadd hx hb d_Bo_partBlock_140 ?_
            refine topi_eq (iI_add (A 0) 1) ?_
            refine co_iast hC hK hM (18 + 3 * b + 2) (by omega) (fun f => cE_Du b f) 0 (i := 0) (x := iI ((A 0) + 1)) (rfl) (by decide) (by decide) d_Bo_partBlock_141 (fun H locs hM => ?_)
            rw [va_up_self _ _ _] at hM
            rw [bx_uu] at hM
            refine lv_iload hx hb d_Bo_partBlock_142 (lv_at hl 1 rfl) ?_
            refine lv_if_eq (tgt := 186) hx hb d_Bo_partBlock_144 (by decide) (fun h66 => ?_) (fun h66 => ?_)
            · exact absurd h66 (by decide)
            · skip
              refine lv_aload_n hx hb d_Bo_partBlock_147 rfl (lv_at hl 2 rfl) ?_
              refine rd_get hC in_Bo hK hM.1 (18 + 3 * b) (cw_he (by omega) (cE_B b)) rfl 4 (by decide) wf_Bo_19 rfl (v := .ref (X.1 (18 + 3 * b + 2))) (rfl) d_Bo_partBlock_148 ?_
              refine lv_iconst (v := 1) hx hb d_Bo_partBlock_151 (by decide) ?_
              refine lv_dup2_11 hx hb d_Bo_partBlock_152 rfl rfl ?_
              refine rd_iald hC hK hM.1 (18 + 3 * b + 2) (cw_he (by omega) (cE_D b)) 1 (i := 1) (rfl) (by decide) (by decide) (v := iI (A 1)) ((congrFun (va_up_self _ _ _) _).trans ((pk_un (by omega)).trans ((pk_un (by omega)).trans ((pk_un (by omega)).trans (hA 1 (by decide)))))) d_Bo_partBlock_153 ?_
              refine lv_iconst (v := 1) hx hb d_Bo_partBlock_154 (by decide) ?_
              refine lv_iadd hx hb d_Bo_partBlock_155 ?_
              refine topi_eq (iI_add (A 1) 1) ?_
              refine co_iast hC hK hM (18 + 3 * b + 2) (by omega) (fun f => cE_Du b f) 1 (i := 1) (x := iI ((A 1) + 1)) (rfl) (by decide) (by decide) d_Bo_partBlock_156 (fun H locs hM => ?_)
              rw [va_up_self _ _ _] at hM
              rw [bx_uu] at hM
              refine lv_aload_n hx hb d_Bo_partBlock_157 rfl (lv_at hl 2 rfl) ?_
              refine rd_get hC in_Bo hK hM.1 (18 + 3 * b) (cw_he (by omega) (cE_B b)) rfl 4 (by decide) wf_Bo_19 rfl (v := .ref (X.1 (18 + 3 * b + 2))) (rfl) d_Bo_partBlock_158 ?_
              refine lv_iconst (v := 2) hx hb d_Bo_partBlock_161 (by decide) ?_
              refine lv_dup2_11 hx hb d_Bo_partBlock_162 rfl rfl ?_
              refine rd_iald hC hK hM.1 (18 + 3 * b + 2) (cw_he (by omega) (cE_D b)) 2 (i := 2) (rfl) (by decide) (by decide) (v := iI (A 2)) ((congrFun (va_up_self _ _ _) _).trans ((pk_un (by omega)).trans ((pk_un (by omega)).trans ((pk_un (by omega)).trans ((pk_un (by omega)).trans (hA 2 (by decide))))))) d_Bo_partBlock_163 ?_
              refine lv_iload hx hb d_Bo_partBlock_164 (lv_at hl 6 rfl) ?_
              refine lv_iload_n hx hb d_Bo_partBlock_166 rfl (lv_at hl 3 rfl) ?_
              refine lv_isub hx hb d_Bo_partBlock_167 ?_
              refine topi_eq (iI_sub (eb 3) (eb 0)) ?_
              refine lv_iconst (v := 1) hx hb d_Bo_partBlock_168 (by decide) ?_
              refine lv_iadd hx hb d_Bo_partBlock_169 ?_
              refine topi_eq (iI_add ((eb 3) - (eb 0)) 1) ?_
              refine lv_iload hx hb d_Bo_partBlock_170 (lv_at hl 7 rfl) ?_
              refine lv_iload_n hx hb d_Bo_partBlock_172 rfl (lv_at hl 4 rfl) ?_
              refine lv_isub hx hb d_Bo_partBlock_173 ?_
              refine topi_eq (iI_sub (eb 4) (eb 1)) ?_
              refine lv_iconst (v := 1) hx hb d_Bo_partBlock_174 (by decide) ?_
              refine lv_iadd hx hb d_Bo_partBlock_175 ?_
              refine topi_eq (iI_add ((eb 4) - (eb 1)) 1) ?_
              refine lv_imul hx hb d_Bo_partBlock_176 ?_
              refine topi_eq (iI_mul (((eb 3) - (eb 0)) + 1) (((eb 4) - (eb 1)) + 1)) ?_
              refine lv_iload hx hb d_Bo_partBlock_177 (lv_at hl 8 rfl) ?_
              refine lv_iload_n hx hb d_Bo_partBlock_179 rfl (lv_at hl 5 rfl) ?_
              refine lv_isub hx hb d_Bo_partBlock_180 ?_
              refine topi_eq (iI_sub (eb 5) (eb 2)) ?_
              refine lv_iconst (v := 1) hx hb d_Bo_partBlock_181 (by decide) ?_
              refine lv_iadd hx hb d_Bo_partBlock_182 ?_
              refine topi_eq (iI_add ((eb 5) - (eb 2)) 1) ?_
              refine lv_imul hx hb d_Bo_partBlock_183 ?_
              refine topi_eq (iI_mul ((((eb 3) - (eb 0)) + 1) * (((eb 4) - (eb 1)) + 1)) (((eb 5) - (eb 2)) + 1)) ?_
              refine lv_iadd hx hb d_Bo_partBlock_184 ?_
              refine topi_eq (iI_add (A 2) (((((eb 3) - (eb 0)) + 1) * (((eb 4) - (eb 1)) + 1)) * (((eb 5) - (eb 2)) + 1))) ?_
              refine co_iast hC hK hM (18 + 3 * b + 2) (by omega) (fun f => cE_Du b f) 2 (i := 2) (x := iI ((A 2) + (((((eb 3) - (eb 0)) + 1) * (((eb 4) - (eb 1)) + 1)) * (((eb 5) - (eb 2)) + 1)))) (rfl) (by decide) (by decide) d_Bo_partBlock_185 (fun H locs hM => ?_)
              rw [va_up_self _ _ _] at hM
              rw [bx_uu] at hM
              refine hret _ _ _ _ _ _ d_Bo_partBlock_186 hM ?_
              refine ⟨_, rfl, ?_⟩
              rw [pae_leaf hv (by omega)]
              exact lfP_in hA (by omega)
          · exact absurd h65 (by decide)
        · skip
          refine lv_iload_n hx hb d_Bo_partBlock_73 rfl (lv_at hl 4 rfl) ?_
          refine lv_iload hx hb d_Bo_partBlock_74 (lv_at hl 7 rfl) ?_
          refine zc_ne hx hb (eb 2) (eb 5) (by omega) (by omega) (by omega) (by omega) d_Bo_partBlock_76 (tgt := 83) (by decide) (fun h67 => ?_) (fun h67 => ?_)
          · skip
            refine lv_iconst (v := 0) hx hb d_Bo_partBlock_83 (by decide) ?_
            refine lv_istore (lv' := [(9, .int 0), (8, .int 1), (0, .ref (X.1 (18 + 3 * b))), (1, .int (iI (eb 0))), (2, .int (iI (eb 1))), (3, .int (iI (eb 2))), (4, .int (iI (eb 3))), (5, .int (iI (eb 4))), (6, .int (iI (eb 5))), (7, .int (iI (eb 6)))]) hx hb d_Bo_partBlock_84 hl (by decide) rfl (fun ls hl => ?_)
            refine lv_iload hx hb d_Bo_partBlock_86 (lv_at hl 1 rfl) ?_
            refine lv_if_ne (tgt := 132) hx hb d_Bo_partBlock_88 (by decide) (fun h68 => ?_) (fun h68 => ?_)
            · skip
              refine lv_aload_n hx hb d_Bo_partBlock_132 rfl (lv_at hl 2 rfl) ?_
              refine rd_get hC in_Bo hK hM.1 (18 + 3 * b) (cw_he (by omega) (cE_B b)) rfl 4 (by decide) wf_Bo_19 rfl (v := .ref (X.1 (18 + 3 * b + 2))) (rfl) d_Bo_partBlock_133 ?_
              refine lv_iconst (v := 0) hx hb d_Bo_partBlock_136 (by decide) ?_
              refine lv_dup2_11 hx hb d_Bo_partBlock_137 rfl rfl ?_
              refine rd_iald hC hK hM.1 (18 + 3 * b + 2) (cw_he (by omega) (cE_D b)) 0 (i := 0) (rfl) (by decide) (by decide) (v := iI (A 0)) ((congrFun (va_up_self _ _ _) _).trans ((pk_un (by omega)).trans ((pk_un (by omega)).trans (hA 0 (by decide))))) d_Bo_partBlock_138 ?_
              refine lv_iconst (v := 1) hx hb d_Bo_partBlock_139 (by decide) ?_
              refine lv_iadd hx hb d_Bo_partBlock_140 ?_
              refine topi_eq (iI_add (A 0) 1) ?_
              refine co_iast hC hK hM (18 + 3 * b + 2) (by omega) (fun f => cE_Du b f) 0 (i := 0) (x := iI ((A 0) + 1)) (rfl) (by decide) (by decide) d_Bo_partBlock_141 (fun H locs hM => ?_)
              rw [va_up_self _ _ _] at hM
              rw [bx_uu] at hM
              refine lv_iload hx hb d_Bo_partBlock_142 (lv_at hl 1 rfl) ?_
              refine lv_if_eq (tgt := 186) hx hb d_Bo_partBlock_144 (by decide) (fun h69 => ?_) (fun h69 => ?_)
              · exact absurd h69 (by decide)
              · skip
                refine lv_aload_n hx hb d_Bo_partBlock_147 rfl (lv_at hl 2 rfl) ?_
                refine rd_get hC in_Bo hK hM.1 (18 + 3 * b) (cw_he (by omega) (cE_B b)) rfl 4 (by decide) wf_Bo_19 rfl (v := .ref (X.1 (18 + 3 * b + 2))) (rfl) d_Bo_partBlock_148 ?_
                refine lv_iconst (v := 1) hx hb d_Bo_partBlock_151 (by decide) ?_
                refine lv_dup2_11 hx hb d_Bo_partBlock_152 rfl rfl ?_
                refine rd_iald hC hK hM.1 (18 + 3 * b + 2) (cw_he (by omega) (cE_D b)) 1 (i := 1) (rfl) (by decide) (by decide) (v := iI (A 1)) ((congrFun (va_up_self _ _ _) _).trans ((pk_un (by omega)).trans ((pk_un (by omega)).trans ((pk_un (by omega)).trans (hA 1 (by decide)))))) d_Bo_partBlock_153 ?_
                refine lv_iconst (v := 1) hx hb d_Bo_partBlock_154 (by decide) ?_
                refine lv_iadd hx hb d_Bo_partBlock_155 ?_
                refine topi_eq (iI_add (A 1) 1) ?_
                refine co_iast hC hK hM (18 + 3 * b + 2) (by omega) (fun f => cE_Du b f) 1 (i := 1) (x := iI ((A 1) + 1)) (rfl) (by decide) (by decide) d_Bo_partBlock_156 (fun H locs hM => ?_)
                rw [va_up_self _ _ _] at hM
                rw [bx_uu] at hM
                refine lv_aload_n hx hb d_Bo_partBlock_157 rfl (lv_at hl 2 rfl) ?_
                refine rd_get hC in_Bo hK hM.1 (18 + 3 * b) (cw_he (by omega) (cE_B b)) rfl 4 (by decide) wf_Bo_19 rfl (v := .ref (X.1 (18 + 3 * b + 2))) (rfl) d_Bo_partBlock_158 ?_
                refine lv_iconst (v := 2) hx hb d_Bo_partBlock_161 (by decide) ?_
                refine lv_dup2_11 hx hb d_Bo_partBlock_162 rfl rfl ?_
                refine rd_iald hC hK hM.1 (18 + 3 * b + 2) (cw_he (by omega) (cE_D b)) 2 (i := 2) (rfl) (by decide) (by decide) (v := iI (A 2)) ((congrFun (va_up_self _ _ _) _).trans ((pk_un (by omega)).trans ((pk_un (by omega)).trans ((pk_un (by omega)).trans ((pk_un (by omega)).trans (hA 2 (by decide))))))) d_Bo_partBlock_163 ?_
                refine lv_iload hx hb d_Bo_partBlock_164 (lv_at hl 6 rfl) ?_
                refine lv_iload_n hx hb d_Bo_partBlock_166 rfl (lv_at hl 3 rfl) ?_
                refine lv_isub hx hb d_Bo_partBlock_167 ?_
                refine topi_eq (iI_sub (eb 3) (eb 0)) ?_
                refine lv_iconst (v := 1) hx hb d_Bo_partBlock_168 (by decide) ?_
                refine lv_iadd hx hb d_Bo_partBlock_169 ?_
                refine topi_eq (iI_add ((eb 3) - (eb 0)) 1) ?_
                refine lv_iload hx hb d_Bo_partBlock_170 (lv_at hl 7 rfl) ?_
                refine lv_iload_n hx hb d_Bo_partBlock_172 rfl (lv_at hl 4 rfl) ?_
                refine lv_isub hx hb d_Bo_partBlock_173 ?_
                refine topi_eq (iI_sub (eb 4) (eb 1)) ?_
                refine lv_iconst (v := 1) hx hb d_Bo_partBlock_174 (by decide) ?_
                refine lv_iadd hx hb d_Bo_partBlock_175 ?_
                refine topi_eq (iI_add ((eb 4) - (eb 1)) 1) ?_
                refine lv_imul hx hb d_Bo_partBlock_176 ?_
                refine topi_eq (iI_mul (((eb 3) - (eb 0)) + 1) (((eb 4) - (eb 1)) + 1)) ?_
                refine lv_iload hx hb d_Bo_partBlock_177 (lv_at hl 8 rfl) ?_
                refine lv_iload_n hx hb d_Bo_partBlock_179 rfl (lv_at hl 5 rfl) ?_
                refine lv_isub hx hb d_Bo_partBlock_180 ?_
                refine topi_eq (iI_sub (eb 5) (eb 2)) ?_
                refine lv_iconst (v := 1) hx hb d_Bo_partBlock_181 (by decide) ?_
                refine lv_iadd hx hb d_Bo_partBlock_182 ?_
                refine topi_eq (iI_add ((eb 5) - (eb 2)) 1) ?_
                refine lv_imul hx hb d_Bo_partBlock_183 ?_
                refine topi_eq (iI_mul ((((eb 3) - (eb 0)) + 1) * (((eb 4) - (eb 1)) + 1)) (((eb 5) - (eb 2)) + 1)) ?_
                refine lv_iadd hx hb d_Bo_partBlock_184 ?_
                refine topi_eq (iI_add (A 2) (((((eb 3) - (eb 0)) + 1) * (((eb 4) - (eb 1)) + 1)) * (((eb 5) - (eb 2)) + 1))) ?_
                refine co_iast hC hK hM (18 + 3 * b + 2) (by omega) (fun f => cE_Du b f) 2 (i := 2) (x := iI ((A 2) + (((((eb 3) - (eb 0)) + 1) * (((eb 4) - (eb 1)) + 1)) * (((eb 5) - (eb 2)) + 1)))) (rfl) (by decide) (by decide) d_Bo_partBlock_185 (fun H locs hM => ?_)
                rw [va_up_self _ _ _] at hM
                rw [bx_uu] at hM
                refine hret _ _ _ _ _ _ d_Bo_partBlock_186 hM ?_
                refine ⟨_, rfl, ?_⟩
                rw [pae_leaf hv (by omega)]
                exact lfP_in hA (by omega)
            · exact absurd h68 (by decide)
          · skip
            refine lv_iconst (v := 1) hx hb d_Bo_partBlock_79 (by decide) ?_
            refine lv_goto (tgt := 84) hx hb d_Bo_partBlock_80 (by decide) ?_
            refine lv_istore (lv' := [(9, .int 1), (8, .int 1), (0, .ref (X.1 (18 + 3 * b))), (1, .int (iI (eb 0))), (2, .int (iI (eb 1))), (3, .int (iI (eb 2))), (4, .int (iI (eb 3))), (5, .int (iI (eb 4))), (6, .int (iI (eb 5))), (7, .int (iI (eb 6)))]) hx hb d_Bo_partBlock_84 hl (by decide) rfl (fun ls hl => ?_)
            refine lv_iload hx hb d_Bo_partBlock_86 (lv_at hl 1 rfl) ?_
            refine lv_if_ne (tgt := 132) hx hb d_Bo_partBlock_88 (by decide) (fun h70 => ?_) (fun h70 => ?_)
            · skip
              refine lv_aload_n hx hb d_Bo_partBlock_132 rfl (lv_at hl 2 rfl) ?_
              refine rd_get hC in_Bo hK hM.1 (18 + 3 * b) (cw_he (by omega) (cE_B b)) rfl 4 (by decide) wf_Bo_19 rfl (v := .ref (X.1 (18 + 3 * b + 2))) (rfl) d_Bo_partBlock_133 ?_
              refine lv_iconst (v := 0) hx hb d_Bo_partBlock_136 (by decide) ?_
              refine lv_dup2_11 hx hb d_Bo_partBlock_137 rfl rfl ?_
              refine rd_iald hC hK hM.1 (18 + 3 * b + 2) (cw_he (by omega) (cE_D b)) 0 (i := 0) (rfl) (by decide) (by decide) (v := iI (A 0)) ((congrFun (va_up_self _ _ _) _).trans ((pk_un (by omega)).trans ((pk_un (by omega)).trans (hA 0 (by decide))))) d_Bo_partBlock_138 ?_
              refine lv_iconst (v := 1) hx hb d_Bo_partBlock_139 (by decide) ?_
              refine lv_iadd hx hb d_Bo_partBlock_140 ?_
              refine topi_eq (iI_add (A 0) 1) ?_
              refine co_iast hC hK hM (18 + 3 * b + 2) (by omega) (fun f => cE_Du b f) 0 (i := 0) (x := iI ((A 0) + 1)) (rfl) (by decide) (by decide) d_Bo_partBlock_141 (fun H locs hM => ?_)
              rw [va_up_self _ _ _] at hM
              rw [bx_uu] at hM
              refine lv_iload hx hb d_Bo_partBlock_142 (lv_at hl 1 rfl) ?_
              refine lv_if_eq (tgt := 186) hx hb d_Bo_partBlock_144 (by decide) (fun h71 => ?_) (fun h71 => ?_)
              · exact absurd h71 (by decide)
              · skip
                refine lv_aload_n hx hb d_Bo_partBlock_147 rfl (lv_at hl 2 rfl) ?_
                refine rd_get hC in_Bo hK hM.1 (18 + 3 * b) (cw_he (by omega) (cE_B b)) rfl 4 (by decide) wf_Bo_19 rfl (v := .ref (X.1 (18 + 3 * b + 2))) (rfl) d_Bo_partBlock_148 ?_
                refine lv_iconst (v := 1) hx hb d_Bo_partBlock_151 (by decide) ?_
                refine lv_dup2_11 hx hb d_Bo_partBlock_152 rfl rfl ?_
                refine rd_iald hC hK hM.1 (18 + 3 * b + 2) (cw_he (by omega) (cE_D b)) 1 (i := 1) (rfl) (by decide) (by decide) (v := iI (A 1)) ((congrFun (va_up_self _ _ _) _).trans ((pk_un (by omega)).trans ((pk_un (by omega)).trans ((pk_un (by omega)).trans (hA 1 (by decide)))))) d_Bo_partBlock_153 ?_
                refine lv_iconst (v := 1) hx hb d_Bo_partBlock_154 (by decide) ?_
                refine lv_iadd hx hb d_Bo_partBlock_155 ?_
                refine topi_eq (iI_add (A 1) 1) ?_
                refine co_iast hC hK hM (18 + 3 * b + 2) (by omega) (fun f => cE_Du b f) 1 (i := 1) (x := iI ((A 1) + 1)) (rfl) (by decide) (by decide) d_Bo_partBlock_156 (fun H locs hM => ?_)
                rw [va_up_self _ _ _] at hM
                rw [bx_uu] at hM
                refine lv_aload_n hx hb d_Bo_partBlock_157 rfl (lv_at hl 2 rfl) ?_
                refine rd_get hC in_Bo hK hM.1 (18 + 3 * b) (cw_he (by omega) (cE_B b)) rfl 4 (by decide) wf_Bo_19 rfl (v := .ref (X.1 (18 + 3 * b + 2))) (rfl) d_Bo_partBlock_158 ?_
                refine lv_iconst (v := 2) hx hb d_Bo_partBlock_161 (by decide) ?_
                refine lv_dup2_11 hx hb d_Bo_partBlock_162 rfl rfl ?_
                refine rd_iald hC hK hM.1 (18 + 3 * b + 2) (cw_he (by omega) (cE_D b)) 2 (i := 2) (rfl) (by decide) (by decide) (v := iI (A 2)) ((congrFun (va_up_self _ _ _) _).trans ((pk_un (by omega)).trans ((pk_un (by omega)).trans ((pk_un (by omega)).trans ((pk_un (by omega)).trans (hA 2 (by decide))))))) d_Bo_partBlock_163 ?_
                refine lv_iload hx hb d_Bo_partBlock_164 (lv_at hl 6 rfl) ?_
                refine lv_iload_n hx hb d_Bo_partBlock_166 rfl (lv_at hl 3 rfl) ?_
                refine lv_isub hx hb d_Bo_partBlock_167 ?_
                refine topi_eq (iI_sub (eb 3) (eb 0)) ?_
                refine lv_iconst (v := 1) hx hb d_Bo_partBlock_168 (by decide) ?_
                refine lv_iadd hx hb d_Bo_partBlock_169 ?_
                refine topi_eq (iI_add ((eb 3) - (eb 0)) 1) ?_
                refine lv_iload hx hb d_Bo_partBlock_170 (lv_at hl 7 rfl) ?_
                refine lv_iload_n hx hb d_Bo_partBlock_172 rfl (lv_at hl 4 rfl) ?_
                refine lv_isub hx hb d_Bo_partBlock_173 ?_
                refine topi_eq (iI_sub (eb 4) (eb 1)) ?_
                refine lv_iconst (v := 1) hx hb d_Bo_partBlock_174 (by decide) ?_
                refine lv_iadd hx hb d_Bo_partBlock_175 ?_
                refine topi_eq (iI_add ((eb 4) - (eb 1)) 1) ?_
                refine lv_imul hx hb d_Bo_partBlock_176 ?_
                refine topi_eq (iI_mul (((eb 3) - (eb 0)) + 1) (((eb 4) - (eb 1)) + 1)) ?_
                refine lv_iload hx hb d_Bo_partBlock_177 (lv_at hl 8 rfl) ?_
                refine lv_iload_n hx hb d_Bo_partBlock_179 rfl (lv_at hl 5 rfl) ?_
                refine lv_isub hx hb d_Bo_partBlock_180 ?_
                refine topi_eq (iI_sub (eb 5) (eb 2)) ?_
                refine lv_iconst (v := 1) hx hb d_Bo_partBlock_181 (by decide) ?_
                refine lv_iadd hx hb d_Bo_partBlock_182 ?_
                refine topi_eq (iI_add ((eb 5) - (eb 2)) 1) ?_
                refine lv_imul hx hb d_Bo_partBlock_183 ?_
                refine topi_eq (iI_mul ((((eb 3) - (eb 0)) + 1) * (((eb 4) - (eb 1)) + 1)) (((eb 5) - (eb 2)) + 1)) ?_
                refine lv_iadd hx hb d_Bo_partBlock_184 ?_
                refine topi_eq (iI_add (A 2) (((((eb 3) - (eb 0)) + 1) * (((eb 4) - (eb 1)) + 1)) * (((eb 5) - (eb 2)) + 1))) ?_
                refine co_iast hC hK hM (18 + 3 * b + 2) (by omega) (fun f => cE_Du b f) 2 (i := 2) (x := iI ((A 2) + (((((eb 3) - (eb 0)) + 1) * (((eb 4) - (eb 1)) + 1)) * (((eb 5) - (eb 2)) + 1)))) (rfl) (by decide) (by decide) d_Bo_partBlock_185 (fun H locs hM => ?_)
                rw [va_up_self _ _ _] at hM
                rw [bx_uu] at hM
                refine hret _ _ _ _ _ _ d_Bo_partBlock_186 hM ?_
                refine ⟨_, rfl, ?_⟩
                rw [pae_leaf hv (by omega)]
                exact lfP_in hA (by omega)
            · exact absurd h70 (by decide)
  · skip
    refine hret _ _ _ _ _ _ d_Bo_partBlock_6 hM ?_
    exfalso
    omega
set_option maxHeartbeats 2000000 in
set_option maxRecDepth 100000 in
theorem c_Bo_partInTwos (l : Launch) (D : va_G) (cT : Nat → ClassId) (X : CX) (I : Nat → Int32) (a : Nat → Nat → Int32) (b : Nat) (t : TX) (A eb : Nat → Int) (d : Nat) (dep : Int) (hbn : b < X.2.2.2.1) (hv : vbk eb) (h36 : eb 6 ≤ 3) (hA : FR5 (a (18 + 3 * b + 2)) A) (h3 : 0 ≤ A 3 ∧ A 3 ≤ 4) (hdep : eb 6 + 1 = dep) (hPB : ∀ (a' : Nat → Nat → Int32) (A' eb : Nat → Int), FR5 (a' (18 + 3 * b + 2)) A' → (0 ≤ A' 3 ∧ A' 3 ≤ 4) → vbk eb → eb 6 = dep → CMv l D cT X y_Bo_partBlock b_Bo_partBlock 10 none (27 + 2 * d) (940 + 80 * d) [.ref (X.1 (18 + 3 * b)), .int (iI (eb 0)), .int (iI (eb 1)), .int (iI (eb 2)), .int (iI (eb 3)), .int (iI (eb 4)), .int (iI (eb 5)), .int (iI (eb 6))] I a' (fun u => ∃ f, u = (I, va_up a' (18 + 3 * b + 2) f) ∧ FR5 f (cb A' (pae t eb)))) : CMv l D cT X y_Bo_partInTwos b_Bo_partInTwos 18 none (26 + 2 * (d + 1)) (900 + 80 * (d + 1)) [.ref (X.1 (18 + 3 * b)), .int (iI (eb 0)), .int (iI (eb 1)), .int (iI (eb 2)), .int (iI (eb 3)), .int (iI (eb 4)), .int (iI (eb 5)), .int (iI (eb 6))] I a (fun u => ∃ f, u = (I, va_up a (18 + 3 * b + 2) f) ∧ FR5 f (cb A (csum (pae t) eb 8))) := by
  refine co_entv (own := R_Bo) (by decide) rfl (Nat.le_of_ble_eq_true rfl) ?_
  intro p e s m args below meth c Q hC hK hM hret ls hl
  have hx := hC.1
  have hb := hC.2.1
  replace hl : lv_has ls 18 [(0, .ref (X.1 (18 + 3 * b))), (1, .int (iI (eb 0))), (2, .int (iI (eb 1))), (3, .int (iI (eb 2))), (4, .int (iI (eb 3))), (5, .int (iI (eb 4))), (6, .int (iI (eb 5))), (7, .int (iI (eb 6)))] := hl
  obtain ⟨hv6, hv0, hv1, hv2⟩ := id hv
  refine lv_iload_n hx hb d_Bo_partInTwos_0 rfl (lv_at hl 1 rfl) ?_
  refine lv_iload hx hb d_Bo_partInTwos_1 (lv_at hl 4 rfl) ?_
  refine lv_iload_n hx hb d_Bo_partInTwos_3 rfl (lv_at hl 1 rfl) ?_
  refine lv_isub hx hb d_Bo_partInTwos_4 ?_
  refine topi_eq (iI_sub (eb 3) (eb 0)) ?_
  refine lv_iconst (v := 2) hx hb d_Bo_partInTwos_5 (by decide) ?_
  refine idivZ hx hb ((eb 3) - (eb 0)) 2 (by omega) (by omega) (by decide) (by decide) d_Bo_partInTwos_6 ?_
  refine lv_iadd hx hb d_Bo_partInTwos_7 ?_
  refine topi_eq (iI_add (eb 0) (((eb 3) - (eb 0)) / 2)) ?_
  refine lv_istore (lv' := [(8, .int (iI ((eb 0) + (((eb 3) - (eb 0)) / 2)))), (0, .ref (X.1 (18 + 3 * b))), (1, .int (iI (eb 0))), (2, .int (iI (eb 1))), (3, .int (iI (eb 2))), (4, .int (iI (eb 3))), (5, .int (iI (eb 4))), (6, .int (iI (eb 5))), (7, .int (iI (eb 6)))]) hx hb d_Bo_partInTwos_8 hl (by decide) rfl (fun ls hl => ?_)
  refine lv_iload_n hx hb d_Bo_partInTwos_10 rfl (lv_at hl 3 rfl) ?_
  refine lv_iload hx hb d_Bo_partInTwos_11 (lv_at hl 6 rfl) ?_
  refine lv_iload_n hx hb d_Bo_partInTwos_13 rfl (lv_at hl 3 rfl) ?_
  refine lv_isub hx hb d_Bo_partInTwos_14 ?_
  refine topi_eq (iI_sub (eb 4) (eb 1)) ?_
  refine lv_iconst (v := 2) hx hb d_Bo_partInTwos_15 (by decide) ?_
  refine idivZ hx hb ((eb 4) - (eb 1)) 2 (by omega) (by omega) (by decide) (by decide) d_Bo_partInTwos_16 ?_
  refine lv_iadd hx hb d_Bo_partInTwos_17 ?_
  refine topi_eq (iI_add (eb 1) (((eb 4) - (eb 1)) / 2)) ?_
  refine lv_istore (lv' := [(9, .int (iI ((eb 1) + (((eb 4) - (eb 1)) / 2)))), (8, .int (iI ((eb 0) + (((eb 3) - (eb 0)) / 2)))), (0, .ref (X.1 (18 + 3 * b))), (1, .int (iI (eb 0))), (2, .int (iI (eb 1))), (3, .int (iI (eb 2))), (4, .int (iI (eb 3))), (5, .int (iI (eb 4))), (6, .int (iI (eb 5))), (7, .int (iI (eb 6)))]) hx hb d_Bo_partInTwos_18 hl (by decide) rfl (fun ls hl => ?_)
  refine lv_iload_n hx hb d_Bo_partInTwos_20 rfl (lv_at hl 5 rfl) ?_
  refine lv_iload hx hb d_Bo_partInTwos_21 (lv_at hl 8 rfl) ?_
  refine lv_iload_n hx hb d_Bo_partInTwos_23 rfl (lv_at hl 5 rfl) ?_
  refine lv_isub hx hb d_Bo_partInTwos_24 ?_
  refine topi_eq (iI_sub (eb 5) (eb 2)) ?_
  refine lv_iconst (v := 2) hx hb d_Bo_partInTwos_25 (by decide) ?_
  refine idivZ hx hb ((eb 5) - (eb 2)) 2 (by omega) (by omega) (by decide) (by decide) d_Bo_partInTwos_26 ?_
  refine lv_iadd hx hb d_Bo_partInTwos_27 ?_
  refine topi_eq (iI_add (eb 2) (((eb 5) - (eb 2)) / 2)) ?_
  refine lv_istore (lv' := [(10, .int (iI ((eb 2) + (((eb 5) - (eb 2)) / 2)))), (9, .int (iI ((eb 1) + (((eb 4) - (eb 1)) / 2)))), (8, .int (iI ((eb 0) + (((eb 3) - (eb 0)) / 2)))), (0, .ref (X.1 (18 + 3 * b))), (1, .int (iI (eb 0))), (2, .int (iI (eb 1))), (3, .int (iI (eb 2))), (4, .int (iI (eb 3))), (5, .int (iI (eb 4))), (6, .int (iI (eb 5))), (7, .int (iI (eb 6)))]) hx hb d_Bo_partInTwos_28 hl (by decide) rfl (fun ls hl => ?_)
  refine lv_iconst (v := 0) hx hb d_Bo_partInTwos_30 (by decide) ?_
  refine lv_istore (lv' := [(11, .int 0), (10, .int (iI ((eb 2) + (((eb 5) - (eb 2)) / 2)))), (9, .int (iI ((eb 1) + (((eb 4) - (eb 1)) / 2)))), (8, .int (iI ((eb 0) + (((eb 3) - (eb 0)) / 2)))), (0, .ref (X.1 (18 + 3 * b))), (1, .int (iI (eb 0))), (2, .int (iI (eb 1))), (3, .int (iI (eb 2))), (4, .int (iI (eb 3))), (5, .int (iI (eb 4))), (6, .int (iI (eb 5))), (7, .int (iI (eb 6)))]) hx hb d_Bo_partInTwos_31 hl (by decide) rfl (fun ls hl => ?_)
  have hL33 : ∀ (nn : Nat) (pp : Nat) (ff : Nat → Int32) (H : Heap) (locs : List Loc) (ls : Array Slot), 8 - pp < nn → (pp ≤ 8) → (FR5 ff (cb A (csum (pae t) eb pp))) → CO D cT (CA X) X I (va_up a (18 + 3 * b + 2) ff) s.heap H locs → lv_has ls 18 [(0, .ref (X.1 (18 + 3 * b))), (1, .int (iI (eb 0))), (2, .int (iI (eb 1))), (3, .int (iI (eb 2))), (4, .int (iI (eb 3))), (5, .int (iI (eb 4))), (6, .int (iI (eb 5))), (7, .int (iI (eb 6))), (8, .int (iI ((eb 0) + (((eb 3) - (eb 0)) / 2)))), (9, .int (iI ((eb 1) + (((eb 4) - (eb 1)) / 2)))), (10, .int (iI ((eb 2) + (((eb 5) - (eb 2)) / 2)))), (11, .int (nI pp))] → W p l e (rmOf (26 + 2 * (d + 1)) (900 + 80 * (d + 1))) s m args below meth c H locs 0 0 Q (F0 m 33 ls []) := by
    intro nn
    induction nn with
    | zero =>
      intro pp ff H locs ls hmeas33 hp8 hf hM hl
      exact absurd hmeas33 (Nat.not_lt_zero _)
    | succ nn ih33 =>
      intro pp ff H locs ls hmeas33 hp8 hf hM hl
      refine lv_iload hx hb d_Bo_partInTwos_33 (lv_at hl 11 rfl) ?_
      refine lv_bipush (v := 8) hx hb d_Bo_partInTwos_35 (by decide) ?_
      refine nc_ge hx hb pp 8 (by omega) (by omega) d_Bo_partInTwos_37 (tgt := 186) (by decide) (fun h1 => ?_) (fun h1 => ?_)
      · skip
        refine hret _ _ _ _ _ _ d_Bo_partInTwos_186 hM ?_
        obtain rfl : pp = 8 := by omega
        exact ⟨ff, rfl, hf⟩
      · skip
        refine lv_iload hx hb d_Bo_partInTwos_40 (lv_at hl 11 rfl) ?_
        refine lv_iconst (v := 1) hx hb d_Bo_partInTwos_42 (by decide) ?_
        refine lv_iand hx hb d_Bo_partInTwos_43 ?_
        refine topi_eq (and_m pp (by omega) 1 rfl) ?_
        have hJ2 : ∀ (H : Heap) (locs : List Loc) (ls : Array Slot), CO D cT (CA X) X I (va_up a (18 + 3 * b + 2) ff) s.heap H locs → lv_has ls 18 [(0, .ref (X.1 (18 + 3 * b))), (1, .int (iI (eb 0))), (2, .int (iI (eb 1))), (3, .int (iI (eb 2))), (4, .int (iI (eb 3))), (5, .int (iI (eb 4))), (6, .int (iI (eb 5))), (7, .int (iI (eb 6))), (8, .int (iI ((eb 0) + (((eb 3) - (eb 0)) / 2)))), (9, .int (iI ((eb 1) + (((eb 4) - (eb 1)) / 2)))), (10, .int (iI ((eb 2) + (((eb 5) - (eb 2)) / 2)))), (11, .int (nI pp))] → W p l e (rmOf (26 + 2 * (d + 1)) (900 + 80 * (d + 1))) s m args below meth c H locs 0 0 Q (F0 m 55 ls [.int (iI (if (pp % 2) = 0 then eb 0 else ((eb 0) + (((eb 3) - (eb 0)) / 2)) + 1))]) := ?_
        · skip
          refine nz_ne hx hb (pp % 2) (by omega) d_Bo_partInTwos_44 (tgt := 51) (by decide) (fun h3 => ?_) (fun h3 => ?_)
          · skip
            refine lv_iload hx hb d_Bo_partInTwos_51 (lv_at hl 8 rfl) ?_
            refine lv_iconst (v := 1) hx hb d_Bo_partInTwos_53 (by decide) ?_
            refine lv_iadd hx hb d_Bo_partInTwos_54 ?_
            refine topi_eq (iI_add ((eb 0) + (((eb 3) - (eb 0)) / 2)) 1) ?_
            refine topi_eq (show (iI (((eb 0) + (((eb 3) - (eb 0)) / 2)) + 1) : Int32) = iI (if (pp % 2) = 0 then eb 0 else ((eb 0) + (((eb 3) - (eb 0)) / 2)) + 1) by first | rfl | exact (bI_t (by assumption)).symm | exact (bI_f (by assumption)).symm | exact (bI_f (fun z => z (by assumption))).symm | (rw [if_neg h3]; done) | (rw [if_neg h3]; rfl) | (simp only [if_neg h3]; done) | (simp only [if_neg h3]; rfl)) ?_
            exact hJ2 _ _ _ (by first | exact hM | (simp only [if_neg h3]; exact hM)) (by first | exact lv_sub hl [0, 1, 2, 3, 4, 5, 6, 7, 8, 9, 10, 11] rfl | (simp only [if_neg h3]; exact lv_sub hl [0, 1, 2, 3, 4, 5, 6, 7, 8, 9, 10, 11] rfl))
          · skip
            refine lv_iload_n hx hb d_Bo_partInTwos_47 rfl (lv_at hl 1 rfl) ?_
            refine lv_goto (tgt := 55) hx hb d_Bo_partInTwos_48 (by decide) ?_
            refine topi_eq (show (iI (eb 0) : Int32) = iI (if (pp % 2) = 0 then eb 0 else ((eb 0) + (((eb 3) - (eb 0)) / 2)) + 1) by first | rfl | exact (bI_t (by assumption)).symm | exact (bI_f (by assumption)).symm | exact (bI_f (fun z => z (by assumption))).symm | (rw [if_pos h3]; done) | (rw [if_pos h3]; rfl) | (simp only [if_pos h3]; done) | (simp only [if_pos h3]; rfl)) ?_
            exact hJ2 _ _ _ (by first | exact hM | (simp only [if_pos h3]; exact hM)) (by first | exact lv_sub hl [0, 1, 2, 3, 4, 5, 6, 7, 8, 9, 10, 11] rfl | (simp only [if_pos h3]; exact lv_sub hl [0, 1, 2, 3, 4, 5, 6, 7, 8, 9, 10, 11] rfl))
        intro H locs ls hM hl
        refine lv_istore (lv' := [(12, .int (iI (if (pp % 2) = 0 then eb 0 else ((eb 0) + (((eb 3) - (eb 0)) / 2)) + 1))), (0, .ref (X.1 (18 + 3 * b))), (1, .int (iI (eb 0))), (2, .int (iI (eb 1))), (3, .int (iI (eb 2))), (4, .int (iI (eb 3))), (5, .int (iI (eb 4))), (6, .int (iI (eb 5))), (7, .int (iI (eb 6))), (8, .int (iI ((eb 0) + (((eb 3) - (eb 0)) / 2)))), (9, .int (iI ((eb 1) + (((eb 4) - (eb 1)) / 2)))), (10, .int (iI ((eb 2) + (((eb 5) - (eb 2)) / 2)))), (11, .int (nI pp))]) hx hb d_Bo_partInTwos_55 hl (by decide) rfl (fun ls hl => ?_)
        generalize hfx0 : (if (pp % 2) = 0 then eb 0 else ((eb 0) + (((eb 3) - (eb 0)) / 2)) + 1) = fx0 at hl
        have kfx0 : (pp % 2 = 0 ∧ fx0 = eb 0) ∨ (pp % 2 = 1 ∧ fx0 = eb 0 + (eb 3 - eb 0) / 2 + 1) := by rw [← hfx0]; split <;> omega
        refine lv_iload hx hb d_Bo_partInTwos_57 (lv_at hl 12 rfl) ?_
        refine lv_iconst (v := 2) hx hb d_Bo_partInTwos_59 (by decide) ?_
        refine lv_iand hx hb d_Bo_partInTwos_60 ?_
        refine topi_eq (and_2 pp (by omega)) ?_
        have hJ4 : ∀ (H : Heap) (locs : List Loc) (ls : Array Slot), CO D cT (CA X) X I (va_up a (18 + 3 * b + 2) ff) s.heap H locs → lv_has ls 18 [(0, .ref (X.1 (18 + 3 * b))), (1, .int (iI (eb 0))), (2, .int (iI (eb 1))), (3, .int (iI (eb 2))), (4, .int (iI (eb 3))), (5, .int (iI (eb 4))), (6, .int (iI (eb 5))), (7, .int (iI (eb 6))), (8, .int (iI ((eb 0) + (((eb 3) - (eb 0)) / 2)))), (9, .int (iI ((eb 1) + (((eb 4) - (eb 1)) / 2)))), (10, .int (iI ((eb 2) + (((eb 5) - (eb 2)) / 2)))), (11, .int (nI pp)), (12, .int (iI fx0))] → W p l e (rmOf (26 + 2 * (d + 1)) (900 + 80 * (d + 1))) s m args below meth c H locs 0 0 Q (F0 m 72 ls [.int (iI (if (2 * (pp / 2 % 2)) = 0 then eb 1 else ((eb 1) + (((eb 4) - (eb 1)) / 2)) + 1))]) := ?_
        · skip
          refine nz_ne hx hb (2 * (pp / 2 % 2)) (by omega) d_Bo_partInTwos_61 (tgt := 68) (by decide) (fun h5 => ?_) (fun h5 => ?_)
          · skip
            refine lv_iload hx hb d_Bo_partInTwos_68 (lv_at hl 10 rfl) ?_
            refine lv_iconst (v := 1) hx hb d_Bo_partInTwos_70 (by decide) ?_
            refine lv_iadd hx hb d_Bo_partInTwos_71 ?_
            refine topi_eq (iI_add ((eb 1) + (((eb 4) - (eb 1)) / 2)) 1) ?_
            refine topi_eq (show (iI (((eb 1) + (((eb 4) - (eb 1)) / 2)) + 1) : Int32) = iI (if (2 * (pp / 2 % 2)) = 0 then eb 1 else ((eb 1) + (((eb 4) - (eb 1)) / 2)) + 1) by first | rfl | exact (bI_t (by assumption)).symm | exact (bI_f (by assumption)).symm | exact (bI_f (fun z => z (by assumption))).symm | (rw [if_neg h5]; done) | (rw [if_neg h5]; rfl) | (simp only [if_neg h5]; done) | (simp only [if_neg h5]; rfl)) ?_
            exact hJ4 _ _ _ (by first | exact hM | (simp only [if_neg h5]; exact hM)) (by first | exact lv_sub hl [1, 2, 3, 4, 5, 6, 7, 8, 9, 10, 11, 12, 0] rfl | (simp only [if_neg h5]; exact lv_sub hl [1, 2, 3, 4, 5, 6, 7, 8, 9, 10, 11, 12, 0] rfl))
          · skip
            refine lv_iload_n hx hb d_Bo_partInTwos_64 rfl (lv_at hl 3 rfl) ?_
            refine lv_goto (tgt := 72) hx hb d_Bo_partInTwos_65 (by decide) ?_
            refine topi_eq (show (iI (eb 1) : Int32) = iI (if (2 * (pp / 2 % 2)) = 0 then eb 1 else ((eb 1) + (((eb 4) - (eb 1)) / 2)) + 1) by first | rfl | exact (bI_t (by assumption)).symm | exact (bI_f (by assumption)).symm | exact (bI_f (fun z => z (by assumption))).symm | (rw [if_pos h5]; done) | (rw [if_pos h5]; rfl) | (simp only [if_pos h5]; done) | (simp only [if_pos h5]; rfl)) ?_
            exact hJ4 _ _ _ (by first | exact hM | (simp only [if_pos h5]; exact hM)) (by first | exact lv_sub hl [1, 2, 3, 4, 5, 6, 7, 8, 9, 10, 11, 12, 0] rfl | (simp only [if_pos h5]; exact lv_sub hl [1, 2, 3, 4, 5, 6, 7, 8, 9, 10, 11, 12, 0] rfl))
        intro H locs ls hM hl
        refine lv_istore (lv' := [(13, .int (iI (if (2 * (pp / 2 % 2)) = 0 then eb 1 else ((eb 1) + (((eb 4) - (eb 1)) / 2)) + 1))), (0, .ref (X.1 (18 + 3 * b))), (1, .int (iI (eb 0))), (2, .int (iI (eb 1))), (3, .int (iI (eb 2))), (4, .int (iI (eb 3))), (5, .int (iI (eb 4))), (6, .int (iI (eb 5))), (7, .int (iI (eb 6))), (8, .int (iI ((eb 0) + (((eb 3) - (eb 0)) / 2)))), (9, .int (iI ((eb 1) + (((eb 4) - (eb 1)) / 2)))), (10, .int (iI ((eb 2) + (((eb 5) - (eb 2)) / 2)))), (11, .int (nI pp)), (12, .int (iI fx0))]) hx hb d_Bo_partInTwos_72 hl (by decide) rfl (fun ls hl => ?_)
        generalize hfx1 : (if (2 * (pp / 2 % 2)) = 0 then eb 1 else ((eb 1) + (((eb 4) - (eb 1)) / 2)) + 1) = fx1 at hl
        have kfx1 : (2 * (pp / 2 % 2) = 0 ∧ fx1 = eb 1) ∨ (2 * (pp / 2 % 2) = 2 ∧ fx1 = eb 1 + (eb 4 - eb 1) / 2 + 1) := by rw [← hfx1]; split <;> omega
        refine lv_iload hx hb d_Bo_partInTwos_74 (lv_at hl 12 rfl) ?_
        refine lv_iconst (v := 4) hx hb d_Bo_partInTwos_76 (by decide) ?_
        refine lv_iand hx hb d_Bo_partInTwos_77 ?_
        refine topi_eq (and_4 pp (by omega)) ?_
        have hJ6 : ∀ (H : Heap) (locs : List Loc) (ls : Array Slot), CO D cT (CA X) X I (va_up a (18 + 3 * b + 2) ff) s.heap H locs → lv_has ls 18 [(0, .ref (X.1 (18 + 3 * b))), (1, .int (iI (eb 0))), (2, .int (iI (eb 1))), (3, .int (iI (eb 2))), (4, .int (iI (eb 3))), (5, .int (iI (eb 4))), (6, .int (iI (eb 5))), (7, .int (iI (eb 6))), (8, .int (iI ((eb 0) + (((eb 3) - (eb 0)) / 2)))), (9, .int (iI ((eb 1) + (((eb 4) - (eb 1)) / 2)))), (10, .int (iI ((eb 2) + (((eb 5) - (eb 2)) / 2)))), (11, .int (nI pp)), (12, .int (iI fx0)), (13, .int (iI fx1))] → W p l e (rmOf (26 + 2 * (d + 1)) (900 + 80 * (d + 1))) s m args below meth c H locs 0 0 Q (F0 m 89 ls [.int (iI (if (4 * (pp / 4 % 2)) = 0 then eb 2 else ((eb 2) + (((eb 5) - (eb 2)) / 2)) + 1))]) := ?_
        · skip
          refine nz_ne hx hb (4 * (pp / 4 % 2)) (by omega) d_Bo_partInTwos_78 (tgt := 85) (by decide) (fun h7 => ?_) (fun h7 => ?_)
          · skip
            refine lv_iload hx hb d_Bo_partInTwos_85 (lv_at hl 11 rfl) ?_
            refine lv_iconst (v := 1) hx hb d_Bo_partInTwos_87 (by decide) ?_
            refine lv_iadd hx hb d_Bo_partInTwos_88 ?_
            refine topi_eq (iI_add ((eb 2) + (((eb 5) - (eb 2)) / 2)) 1) ?_
            refine topi_eq (show (iI (((eb 2) + (((eb 5) - (eb 2)) / 2)) + 1) : Int32) = iI (if (4 * (pp / 4 % 2)) = 0 then eb 2 else ((eb 2) + (((eb 5) - (eb 2)) / 2)) + 1) by first | rfl | exact (bI_t (by assumption)).symm | exact (bI_f (by assumption)).symm | exact (bI_f (fun z => z (by assumption))).symm | (rw [if_neg h7]; done) | (rw [if_neg h7]; rfl) | (simp only [if_neg h7]; done) | (simp only [if_neg h7]; rfl)) ?_
            exact hJ6 _ _ _ (by first | exact hM | (simp only [if_neg h7]; exact hM)) (by first | exact lv_sub hl [1, 2, 3, 4, 5, 6, 7, 8, 9, 10, 11, 12, 13, 0] rfl | (simp only [if_neg h7]; exact lv_sub hl [1, 2, 3, 4, 5, 6, 7, 8, 9, 10, 11, 12, 13, 0] rfl))
          · skip
            refine lv_iload_n hx hb d_Bo_partInTwos_81 rfl (lv_at hl 4 rfl) ?_
            refine lv_goto (tgt := 89) hx hb d_Bo_partInTwos_82 (by decide) ?_
            refine topi_eq (show (iI (eb 2) : Int32) = iI (if (4 * (pp / 4 % 2)) = 0 then eb 2 else ((eb 2) + (((eb 5) - (eb 2)) / 2)) + 1) by first | rfl | exact (bI_t (by assumption)).symm | exact (bI_f (by assumption)).symm | exact (bI_f (fun z => z (by assumption))).symm | (rw [if_pos h7]; done) | (rw [if_pos h7]; rfl) | (simp only [if_pos h7]; done) | (simp only [if_pos h7]; rfl)) ?_
            exact hJ6 _ _ _ (by first | exact hM | (simp only [if_pos h7]; exact hM)) (by first | exact lv_sub hl [1, 2, 3, 4, 5, 6, 7, 8, 9, 10, 11, 12, 13, 0] rfl | (simp only [if_pos h7]; exact lv_sub hl [1, 2, 3, 4, 5, 6, 7, 8, 9, 10, 11, 12, 13, 0] rfl))
        intro H locs ls hM hl
        refine lv_istore (lv' := [(14, .int (iI (if (4 * (pp / 4 % 2)) = 0 then eb 2 else ((eb 2) + (((eb 5) - (eb 2)) / 2)) + 1))), (0, .ref (X.1 (18 + 3 * b))), (1, .int (iI (eb 0))), (2, .int (iI (eb 1))), (3, .int (iI (eb 2))), (4, .int (iI (eb 3))), (5, .int (iI (eb 4))), (6, .int (iI (eb 5))), (7, .int (iI (eb 6))), (8, .int (iI ((eb 0) + (((eb 3) - (eb 0)) / 2)))), (9, .int (iI ((eb 1) + (((eb 4) - (eb 1)) / 2)))), (10, .int (iI ((eb 2) + (((eb 5) - (eb 2)) / 2)))), (11, .int (nI pp)), (12, .int (iI fx0)), (13, .int (iI fx1))]) hx hb d_Bo_partInTwos_89 hl (by decide) rfl (fun ls hl => ?_)
        generalize hfx2 : (if (4 * (pp / 4 % 2)) = 0 then eb 2 else ((eb 2) + (((eb 5) - (eb 2)) / 2)) + 1) = fx2 at hl
        have kfx2 : (4 * (pp / 4 % 2) = 0 ∧ fx2 = eb 2) ∨ (4 * (pp / 4 % 2) = 4 ∧ fx2 = eb 2 + (eb 5 - eb 2) / 2 + 1) := by rw [← hfx2]; split <;> omega
        refine lv_iload hx hb d_Bo_partInTwos_91 (lv_at hl 13 rfl) ?_
        refine lv_iload hx hb d_Bo_partInTwos_93 (lv_at hl 5 rfl) ?_
        refine zc_gt hx hb fx0 (eb 3) (by omega) (by omega) (by omega) (by omega) d_Bo_partInTwos_95 (tgt := 180) (by decide) (fun h8 => ?_) (fun h8 => ?_)
        · skip
          refine lv_iinc (v := nI (pp + 1)) (lv' := [(11, .int (nI (pp + 1))), (14, .int (iI fx2)), (0, .ref (X.1 (18 + 3 * b))), (1, .int (iI (eb 0))), (2, .int (iI (eb 1))), (3, .int (iI (eb 2))), (4, .int (iI (eb 3))), (5, .int (iI (eb 4))), (6, .int (iI (eb 5))), (7, .int (iI (eb 6))), (8, .int (iI ((eb 0) + (((eb 3) - (eb 0)) / 2)))), (9, .int (iI ((eb 1) + (((eb 4) - (eb 1)) / 2)))), (10, .int (iI ((eb 2) + (((eb 5) - (eb 2)) / 2)))), (12, .int (iI fx0)), (13, .int (iI fx1))]) hx hb d_Bo_partInTwos_180 hl (k := 12) rfl (nI_add pp 1) (by decide) rfl (fun ls hl => ?_)
          refine lv_goto (tgt := 33) hx hb d_Bo_partInTwos_183 (by decide) ?_
          exact ih33 (pp + 1) ff _ _ _ (by omega) (by omega) (by rw [csum_n (fun z9 => by omega)]; exact hf) (hM) (lv_sub hl [2, 3, 4, 5, 6, 7, 8, 9, 10, 11, 12, 0] rfl)
        · skip
          refine lv_iload hx hb d_Bo_partInTwos_98 (lv_at hl 14 rfl) ?_
          refine lv_iload hx hb d_Bo_partInTwos_100 (lv_at hl 6 rfl) ?_
          refine zc_gt hx hb fx1 (eb 4) (by omega) (by omega) (by omega) (by omega) d_Bo_partInTwos_102 (tgt := 180) (by decide) (fun h9 => ?_) (fun h9 => ?_)
          · skip
            refine lv_iinc (v := nI (pp + 1)) (lv' := [(11, .int (nI (pp + 1))), (14, .int (iI fx2)), (0, .ref (X.1 (18 + 3 * b))), (1, .int (iI (eb 0))), (2, .int (iI (eb 1))), (3, .int (iI (eb 2))), (4, .int (iI (eb 3))), (5, .int (iI (eb 4))), (6, .int (iI (eb 5))), (7, .int (iI (eb 6))), (8, .int (iI ((eb 0) + (((eb 3) - (eb 0)) / 2)))), (9, .int (iI ((eb 1) + (((eb 4) - (eb 1)) / 2)))), (10, .int (iI ((eb 2) + (((eb 5) - (eb 2)) / 2)))), (12, .int (iI fx0)), (13, .int (iI fx1))]) hx hb d_Bo_partInTwos_180 hl (k := 12) rfl (nI_add pp 1) (by decide) rfl (fun ls hl => ?_)
            refine lv_goto (tgt := 33) hx hb d_Bo_partInTwos_183 (by decide) ?_
            exact ih33 (pp + 1) ff _ _ _ (by omega) (by omega) (by rw [csum_n (fun z9 => by omega)]; exact hf) (hM) (lv_sub hl [2, 3, 4, 5, 6, 7, 8, 9, 10, 11, 12, 0] rfl)
          · skip
            refine lv_iload hx hb d_Bo_partInTwos_105 (lv_at hl 0 rfl) ?_
            refine lv_iload hx hb d_Bo_partInTwos_107 (lv_at hl 7 rfl) ?_
            refine zc_gt hx hb fx2 (eb 5) (by omega) (by omega) (by omega) (by omega) d_Bo_partInTwos_109 (tgt := 180) (by decide) (fun h10 => ?_) (fun h10 => ?_)
            · skip
              refine lv_iinc (v := nI (pp + 1)) (lv' := [(11, .int (nI (pp + 1))), (14, .int (iI fx2)), (0, .ref (X.1 (18 + 3 * b))), (1, .int (iI (eb 0))), (2, .int (iI (eb 1))), (3, .int (iI (eb 2))), (4, .int (iI (eb 3))), (5, .int (iI (eb 4))), (6, .int (iI (eb 5))), (7, .int (iI (eb 6))), (8, .int (iI ((eb 0) + (((eb 3) - (eb 0)) / 2)))), (9, .int (iI ((eb 1) + (((eb 4) - (eb 1)) / 2)))), (10, .int (iI ((eb 2) + (((eb 5) - (eb 2)) / 2)))), (12, .int (iI fx0)), (13, .int (iI fx1))]) hx hb d_Bo_partInTwos_180 hl (k := 12) rfl (nI_add pp 1) (by decide) rfl (fun ls hl => ?_)
              refine lv_goto (tgt := 33) hx hb d_Bo_partInTwos_183 (by decide) ?_
              exact ih33 (pp + 1) ff _ _ _ (by omega) (by omega) (by rw [csum_n (fun z9 => by omega)]; exact hf) (hM) (lv_sub hl [2, 3, 4, 5, 6, 7, 8, 9, 10, 11, 12, 0] rfl)
            · skip
              refine lv_iload hx hb d_Bo_partInTwos_112 (lv_at hl 12 rfl) ?_
              refine lv_iconst (v := 1) hx hb d_Bo_partInTwos_114 (by decide) ?_
              refine lv_iand hx hb d_Bo_partInTwos_115 ?_
              refine topi_eq (and_m pp (by omega) 1 rfl) ?_
              have hJ11 : ∀ (H : Heap) (locs : List Loc) (ls : Array Slot), CO D cT (CA X) X I (va_up a (18 + 3 * b + 2) ff) s.heap H locs → lv_has ls 18 [(0, .ref (X.1 (18 + 3 * b))), (1, .int (iI (eb 0))), (2, .int (iI (eb 1))), (3, .int (iI (eb 2))), (4, .int (iI (eb 3))), (5, .int (iI (eb 4))), (6, .int (iI (eb 5))), (7, .int (iI (eb 6))), (8, .int (iI ((eb 0) + (((eb 3) - (eb 0)) / 2)))), (9, .int (iI ((eb 1) + (((eb 4) - (eb 1)) / 2)))), (10, .int (iI ((eb 2) + (((eb 5) - (eb 2)) / 2)))), (11, .int (nI pp)), (12, .int (iI fx0)), (13, .int (iI fx1)), (14, .int (iI fx2))] → W p l e (rmOf (26 + 2 * (d + 1)) (900 + 80 * (d + 1))) s m args below meth c H locs 0 0 Q (F0 m 126 ls [.int (iI (if (pp % 2) = 0 then (eb 0) + (((eb 3) - (eb 0)) / 2) else eb 3))]) := ?_
              · skip
                refine nz_ne hx hb (pp % 2) (by omega) d_Bo_partInTwos_116 (tgt := 124) (by decide) (fun h12 => ?_) (fun h12 => ?_)
                · skip
                  refine lv_iload hx hb d_Bo_partInTwos_124 (lv_at hl 5 rfl) ?_
                  refine topi_eq (show (iI (eb 3) : Int32) = iI (if (pp % 2) = 0 then (eb 0) + (((eb 3) - (eb 0)) / 2) else eb 3) by first | rfl | exact (bI_t (by assumption)).symm | exact (bI_f (by assumption)).symm | exact (bI_f (fun z => z (by assumption))).symm | (rw [if_neg h12]; done) | (rw [if_neg h12]; rfl) | (simp only [if_neg h12]; done) | (simp only [if_neg h12]; rfl)) ?_
                  exact hJ11 _ _ _ (by first | exact hM | (simp only [if_neg h12]; exact hM)) (by first | exact lv_sub hl [1, 2, 3, 4, 5, 6, 7, 8, 9, 10, 11, 12, 13, 14, 0] rfl | (simp only [if_neg h12]; exact lv_sub hl [1, 2, 3, 4, 5, 6, 7, 8, 9, 10, 11, 12, 13, 14, 0] rfl))
                · skip
                  refine lv_iload hx hb d_Bo_partInTwos_119 (lv_at hl 9 rfl) ?_
                  refine lv_goto (tgt := 126) hx hb d_Bo_partInTwos_121 (by decide) ?_
                  refine topi_eq (show (iI ((eb 0) + (((eb 3) - (eb 0)) / 2)) : Int32) = iI (if (pp % 2) = 0 then (eb 0) + (((eb 3) - (eb 0)) / 2) else eb 3) by first | rfl | exact (bI_t (by assumption)).symm | exact (bI_f (by assumption)).symm | exact (bI_f (fun z => z (by assumption))).symm | (rw [if_pos h12]; done) | (rw [if_pos h12]; rfl) | (simp only [if_pos h12]; done) | (simp only [if_pos h12]; rfl)) ?_
                  exact hJ11 _ _ _ (by first | exact hM | (simp only [if_pos h12]; exact hM)) (by first | exact lv_sub hl [1, 2, 3, 4, 5, 6, 7, 8, 9, 10, 11, 12, 13, 14, 0] rfl | (simp only [if_pos h12]; exact lv_sub hl [1, 2, 3, 4, 5, 6, 7, 8, 9, 10, 11, 12, 13, 14, 0] rfl))
              intro H locs ls hM hl
              refine lv_istore (lv' := [(15, .int (iI (if (pp % 2) = 0 then (eb 0) + (((eb 3) - (eb 0)) / 2) else eb 3))), (0, .ref (X.1 (18 + 3 * b))), (1, .int (iI (eb 0))), (2, .int (iI (eb 1))), (3, .int (iI (eb 2))), (4, .int (iI (eb 3))), (5, .int (iI (eb 4))), (6, .int (iI (eb 5))), (7, .int (iI (eb 6))), (8, .int (iI ((eb 0) + (((eb 3) - (eb 0)) / 2)))), (9, .int (iI ((eb 1) + (((eb 4) - (eb 1)) / 2)))), (10, .int (iI ((eb 2) + (((eb 5) - (eb 2)) / 2)))), (11, .int (nI pp)), (12, .int (iI fx0)), (13, .int (iI fx1)), (14, .int (iI fx2))]) hx hb d_Bo_partInTwos_126 hl (by decide) rfl (fun ls hl => ?_)
              generalize htx0 : (if (pp % 2) = 0 then (eb 0) + (((eb 3) - (eb 0)) / 2) else eb 3) = tx0 at hl
              have ktx0 : (pp % 2 = 0 ∧ tx0 = eb 0 + (eb 3 - eb 0) / 2) ∨ (pp % 2 = 1 ∧ tx0 = eb 3) := by rw [← htx0]; split <;> omega
              refine lv_iload hx hb d_Bo_partInTwos_128 (lv_at hl 12 rfl) ?_
              refine lv_iconst (v := 2) hx hb d_Bo_partInTwos_130 (by decide) ?_
              refine lv_iand hx hb d_Bo_partInTwos_131 ?_
              refine topi_eq (and_2 pp (by omega)) ?_
              have hJ13 : ∀ (H : Heap) (locs : List Loc) (ls : Array Slot), CO D cT (CA X) X I (va_up a (18 + 3 * b + 2) ff) s.heap H locs → lv_has ls 18 [(0, .ref (X.1 (18 + 3 * b))), (1, .int (iI (eb 0))), (2, .int (iI (eb 1))), (3, .int (iI (eb 2))), (4, .int (iI (eb 3))), (5, .int (iI (eb 4))), (6, .int (iI (eb 5))), (7, .int (iI (eb 6))), (8, .int (iI ((eb 0) + (((eb 3) - (eb 0)) / 2)))), (9, .int (iI ((eb 1) + (((eb 4) - (eb 1)) / 2)))), (10, .int (iI ((eb 2) + (((eb 5) - (eb 2)) / 2)))), (11, .int (nI pp)), (12, .int (iI fx0)), (13, .int (iI fx1)), (14, .int (iI fx2)), (15, .int (iI tx0))] → W p l e (rmOf (26 + 2 * (d + 1)) (900 + 80 * (d + 1))) s m args below meth c H locs 0 0 Q (F0 m 142 ls [.int (iI (if (2 * (pp / 2 % 2)) = 0 then (eb 1) + (((eb 4) - (eb 1)) / 2) else eb 4))]) := ?_
              · skip
                refine nz_ne hx hb (2 * (pp / 2 % 2)) (by omega) d_Bo_partInTwos_132 (tgt := 140) (by decide) (fun h14 => ?_) (fun h14 => ?_)
                · skip
                  refine lv_iload hx hb d_Bo_partInTwos_140 (lv_at hl 6 rfl) ?_
                  refine topi_eq (show (iI (eb 4) : Int32) = iI (if (2 * (pp / 2 % 2)) = 0 then (eb 1) + (((eb 4) - (eb 1)) / 2) else eb 4) by first | rfl | exact (bI_t (by assumption)).symm | exact (bI_f (by assumption)).symm | exact (bI_f (fun z => z (by assumption))).symm | (rw [if_neg h14]; done) | (rw [if_neg h14]; rfl) | (simp only [if_neg h14]; done) | (simp only [if_neg h14]; rfl)) ?_
                  exact hJ13 _ _ _ (by first | exact hM | (simp only [if_neg h14]; exact hM)) (by first | exact lv_sub hl [1, 2, 3, 4, 5, 6, 7, 8, 9, 10, 11, 12, 13, 14, 15, 0] rfl | (simp only [if_neg h14]; exact lv_sub hl [1, 2, 3, 4, 5, 6, 7, 8, 9, 10, 11, 12, 13, 14, 15, 0] rfl))
                · skip
                  refine lv_iload hx hb d_Bo_partInTwos_135 (lv_at hl 10 rfl) ?_
                  refine lv_goto (tgt := 142) hx hb d_Bo_partInTwos_137 (by decide) ?_
                  refine topi_eq (show (iI ((eb 1) + (((eb 4) - (eb 1)) / 2)) : Int32) = iI (if (2 * (pp / 2 % 2)) = 0 then (eb 1) + (((eb 4) - (eb 1)) / 2) else eb 4) by first | rfl | exact (bI_t (by assumption)).symm | exact (bI_f (by assumption)).symm | exact (bI_f (fun z => z (by assumption))).symm | (rw [if_pos h14]; done) | (rw [if_pos h14]; rfl) | (simp only [if_pos h14]; done) | (simp only [if_pos h14]; rfl)) ?_
                  exact hJ13 _ _ _ (by first | exact hM | (simp only [if_pos h14]; exact hM)) (by first | exact lv_sub hl [1, 2, 3, 4, 5, 6, 7, 8, 9, 10, 11, 12, 13, 14, 15, 0] rfl | (simp only [if_pos h14]; exact lv_sub hl [1, 2, 3, 4, 5, 6, 7, 8, 9, 10, 11, 12, 13, 14, 15, 0] rfl))
              intro H locs ls hM hl
              refine lv_istore (lv' := [(16, .int (iI (if (2 * (pp / 2 % 2)) = 0 then (eb 1) + (((eb 4) - (eb 1)) / 2) else eb 4))), (0, .ref (X.1 (18 + 3 * b))), (1, .int (iI (eb 0))), (2, .int (iI (eb 1))), (3, .int (iI (eb 2))), (4, .int (iI (eb 3))), (5, .int (iI (eb 4))), (6, .int (iI (eb 5))), (7, .int (iI (eb 6))), (8, .int (iI ((eb 0) + (((eb 3) - (eb 0)) / 2)))), (9, .int (iI ((eb 1) + (((eb 4) - (eb 1)) / 2)))), (10, .int (iI ((eb 2) + (((eb 5) - (eb 2)) / 2)))), (11, .int (nI pp)), (12, .int (iI fx0)), (13, .int (iI fx1)), (14, .int (iI fx2)), (15, .int (iI tx0))]) hx hb d_Bo_partInTwos_142 hl (by decide) rfl (fun ls hl => ?_)
              generalize htx1 : (if (2 * (pp / 2 % 2)) = 0 then (eb 1) + (((eb 4) - (eb 1)) / 2) else eb 4) = tx1 at hl
              have ktx1 : (2 * (pp / 2 % 2) = 0 ∧ tx1 = eb 1 + (eb 4 - eb 1) / 2) ∨ (2 * (pp / 2 % 2) = 2 ∧ tx1 = eb 4) := by rw [← htx1]; split <;> omega
              refine lv_iload hx hb d_Bo_partInTwos_144 (lv_at hl 12 rfl) ?_
              refine lv_iconst (v := 4) hx hb d_Bo_partInTwos_146 (by decide) ?_
              refine lv_iand hx hb d_Bo_partInTwos_147 ?_
              refine topi_eq (and_4 pp (by omega)) ?_
              have hJ15 : ∀ (H : Heap) (locs : List Loc) (ls : Array Slot), CO D cT (CA X) X I (va_up a (18 + 3 * b + 2) ff) s.heap H locs → lv_has ls 18 [(0, .ref (X.1 (18 + 3 * b))), (1, .int (iI (eb 0))), (2, .int (iI (eb 1))), (3, .int (iI (eb 2))), (4, .int (iI (eb 3))), (5, .int (iI (eb 4))), (6, .int (iI (eb 5))), (7, .int (iI (eb 6))), (8, .int (iI ((eb 0) + (((eb 3) - (eb 0)) / 2)))), (9, .int (iI ((eb 1) + (((eb 4) - (eb 1)) / 2)))), (10, .int (iI ((eb 2) + (((eb 5) - (eb 2)) / 2)))), (11, .int (nI pp)), (12, .int (iI fx0)), (13, .int (iI fx1)), (14, .int (iI fx2)), (15, .int (iI tx0)), (16, .int (iI tx1))] → W p l e (rmOf (26 + 2 * (d + 1)) (900 + 80 * (d + 1))) s m args below meth c H locs 0 0 Q (F0 m 158 ls [.int (iI (if (4 * (pp / 4 % 2)) = 0 then (eb 2) + (((eb 5) - (eb 2)) / 2) else eb 5))]) := ?_
              · skip
                refine nz_ne hx hb (4 * (pp / 4 % 2)) (by omega) d_Bo_partInTwos_148 (tgt := 156) (by decide) (fun h16 => ?_) (fun h16 => ?_)
                · skip
                  refine lv_iload hx hb d_Bo_partInTwos_156 (lv_at hl 7 rfl) ?_
                  refine topi_eq (show (iI (eb 5) : Int32) = iI (if (4 * (pp / 4 % 2)) = 0 then (eb 2) + (((eb 5) - (eb 2)) / 2) else eb 5) by first | rfl | exact (bI_t (by assumption)).symm | exact (bI_f (by assumption)).symm | exact (bI_f (fun z => z (by assumption))).symm | (rw [if_neg h16]; done) | (rw [if_neg h16]; rfl) | (simp only [if_neg h16]; done) | (simp only [if_neg h16]; rfl)) ?_
                  exact hJ15 _ _ _ (by first | exact hM | (simp only [if_neg h16]; exact hM)) (by first | exact lv_sub hl [1, 2, 3, 4, 5, 6, 7, 8, 9, 10, 11, 12, 13, 14, 15, 16, 0] rfl | (simp only [if_neg h16]; exact lv_sub hl [1, 2, 3, 4, 5, 6, 7, 8, 9, 10, 11, 12, 13, 14, 15, 16, 0] rfl))
                · skip
                  refine lv_iload hx hb d_Bo_partInTwos_151 (lv_at hl 11 rfl) ?_
                  refine lv_goto (tgt := 158) hx hb d_Bo_partInTwos_153 (by decide) ?_
                  refine topi_eq (show (iI ((eb 2) + (((eb 5) - (eb 2)) / 2)) : Int32) = iI (if (4 * (pp / 4 % 2)) = 0 then (eb 2) + (((eb 5) - (eb 2)) / 2) else eb 5) by first | rfl | exact (bI_t (by assumption)).symm | exact (bI_f (by assumption)).symm | exact (bI_f (fun z => z (by assumption))).symm | (rw [if_pos h16]; done) | (rw [if_pos h16]; rfl) | (simp only [if_pos h16]; done) | (simp only [if_pos h16]; rfl)) ?_
                  exact hJ15 _ _ _ (by first | exact hM | (simp only [if_pos h16]; exact hM)) (by first | exact lv_sub hl [1, 2, 3, 4, 5, 6, 7, 8, 9, 10, 11, 12, 13, 14, 15, 16, 0] rfl | (simp only [if_pos h16]; exact lv_sub hl [1, 2, 3, 4, 5, 6, 7, 8, 9, 10, 11, 12, 13, 14, 15, 16, 0] rfl))
              intro H locs ls hM hl
              refine lv_istore (lv' := [(17, .int (iI (if (4 * (pp / 4 % 2)) = 0 then (eb 2) + (((eb 5) - (eb 2)) / 2) else eb 5))), (0, .ref (X.1 (18 + 3 * b))), (1, .int (iI (eb 0))), (2, .int (iI (eb 1))), (3, .int (iI (eb 2))), (4, .int (iI (eb 3))), (5, .int (iI (eb 4))), (6, .int (iI (eb 5))), (7, .int (iI (eb 6))), (8, .int (iI ((eb 0) + (((eb 3) - (eb 0)) / 2)))), (9, .int (iI ((eb 1) + (((eb 4) - (eb 1)) / 2)))), (10, .int (iI ((eb 2) + (((eb 5) - (eb 2)) / 2)))), (11, .int (nI pp)), (12, .int (iI fx0)), (13, .int (iI fx1)), (14, .int (iI fx2)), (15, .int (iI tx0)), (16, .int (iI tx1))]) hx hb d_Bo_partInTwos_158 hl (by decide) rfl (fun ls hl => ?_)
              generalize htx2 : (if (4 * (pp / 4 % 2)) = 0 then (eb 2) + (((eb 5) - (eb 2)) / 2) else eb 5) = tx2 at hl
              have ktx2 : (4 * (pp / 4 % 2) = 0 ∧ tx2 = eb 2 + (eb 5 - eb 2) / 2) ∨ (4 * (pp / 4 % 2) = 4 ∧ tx2 = eb 5) := by rw [← htx2]; split <;> omega
              refine lv_aload_n hx hb d_Bo_partInTwos_160 rfl (lv_at hl 1 rfl) ?_
              refine lv_iload hx hb d_Bo_partInTwos_161 (lv_at hl 13 rfl) ?_
              refine lv_iload hx hb d_Bo_partInTwos_163 (lv_at hl 14 rfl) ?_
              refine lv_iload hx hb d_Bo_partInTwos_165 (lv_at hl 15 rfl) ?_
              refine lv_iload hx hb d_Bo_partInTwos_167 (lv_at hl 16 rfl) ?_
              refine lv_iload hx hb d_Bo_partInTwos_169 (lv_at hl 17 rfl) ?_
              refine lv_iload hx hb d_Bo_partInTwos_171 (lv_at hl 0 rfl) ?_
              refine lv_iload hx hb d_Bo_partInTwos_173 (lv_at hl 8 rfl) ?_
              refine lv_iconst (v := 1) hx hb d_Bo_partInTwos_175 (by decide) ?_
              refine lv_iadd hx hb d_Bo_partInTwos_176 ?_
              refine topi_eq (iI_add (eb 6) 1) ?_
              have hok9 : ¬ (pp % 2 = 1 ∧ eb 0 = eb 3) ∧ ¬ (2 * (pp / 2 % 2) = 2 ∧ eb 1 = eb 4) ∧ ¬ (4 * (pp / 4 % 2) = 4 ∧ eb 2 = eb 5) := ⟨by omega, by omega, by omega⟩
              have hce : en7 fx0 fx1 fx2 tx0 tx1 tx2 (eb 6 + 1) = chd eb pp := by unfold chd; rw [show (if pp % 2 = 1 then eb 0 + (eb 3 - eb 0) / 2 + 1 else eb 0) = fx0 by split <;> omega, show (if 2 * (pp / 2 % 2) = 2 then eb 1 + (eb 4 - eb 1) / 2 + 1 else eb 1) = fx1 by split <;> omega, show (if 4 * (pp / 4 % 2) = 4 then eb 2 + (eb 5 - eb 2) / 2 + 1 else eb 2) = fx2 by split <;> omega, show (if pp % 2 = 1 then eb 3 else eb 0 + (eb 3 - eb 0) / 2) = tx0 by split <;> omega, show (if 2 * (pp / 2 % 2) = 2 then eb 4 else eb 1 + (eb 4 - eb 1) / 2) = tx1 by split <;> omega, show (if 4 * (pp / 4 % 2) = 4 then eb 5 else eb 2 + (eb 5 - eb 2) / 2) = tx2 by split <;> omega]
              have hvc := chd_ok hv h36 hok9
              rw [← hce] at hvc
              refine co_callv (np := 7) hC hK hM (k := 18 + 3 * b) (by omega) (cE_B b) rfl (hPB (va_up a (18 + 3 * b + 2) ff) _ (en7 fx0 fx1 fx2 tx0 tx1 tx2 (eb 6 + 1)) (by rw [va_up_self]; exact hf) (cb3 h3 (csum3 (fun c9 hc9 he9 => by have := paeD t 9 c9 hc9 (by omega); omega) hv h36 pp).1) hvc hdep) rfl ⟨wl_Bo_65, wi_Bo_partBlock, ws_Bo_partBlock, wc_Bo_partBlock, wn_Bo⟩ ⟨by decide, by decide, by decide +kernel⟩ ⟨by simp only [rmOf]; omega, by simp only [rmOf]; omega⟩ hl.1 rfl (rest := []) rfl (Nat.le_of_ble_eq_true rfl) ⟨Nat.zero_le _, Nat.zero_le _⟩ d_Bo_partInTwos_177 (fun I1 a1 H locs hp1 hM => ?_)
              obtain ⟨f9, e9, hf9⟩ := hp1
              cases e9
              rw [bx_uu] at hM
              rw [hce, cb_assoc, ← csum_y hok9] at hf9
              refine lv_iinc (v := nI (pp + 1)) (lv' := [(11, .int (nI (pp + 1))), (17, .int (iI tx2)), (0, .ref (X.1 (18 + 3 * b))), (1, .int (iI (eb 0))), (2, .int (iI (eb 1))), (3, .int (iI (eb 2))), (4, .int (iI (eb 3))), (5, .int (iI (eb 4))), (6, .int (iI (eb 5))), (7, .int (iI (eb 6))), (8, .int (iI ((eb 0) + (((eb 3) - (eb 0)) / 2)))), (9, .int (iI ((eb 1) + (((eb 4) - (eb 1)) / 2)))), (10, .int (iI ((eb 2) + (((eb 5) - (eb 2)) / 2)))), (12, .int (iI fx0)), (13, .int (iI fx1)), (14, .int (iI fx2)), (15, .int (iI tx0)), (16, .int (iI tx1))]) hx hb d_Bo_partInTwos_180 hl (k := 12) rfl (nI_add pp 1) (by decide) rfl (fun ls hl => ?_)
              refine lv_goto (tgt := 33) hx hb d_Bo_partInTwos_183 (by decide) ?_
              exact ih33 (pp + 1) f9 _ _ _ (by omega) (by omega) (hf9) (hM) (lv_sub hl [2, 3, 4, 5, 6, 7, 8, 9, 10, 11, 12, 0] rfl)
  exact hL33 _ 0 (a (18 + 3 * b + 2)) _ _ _ (Nat.lt_succ_self _) (by omega) (FR5_0 hA h3.1) (by rw [up_same2 (f := a) (k := 18 + 3 * b + 2) (x := a (18 + 3 * b + 2)) rfl]; exact hM) (lv_sub hl [4, 5, 6, 7, 8, 9, 10, 11, 3, 2, 1, 0] rfl)
