/-! the reference: puts, partAll, parted -/
theorem cb_zer {A : Nat → Int} (h : 0 ≤ A 3) : cb A zer = A := by
  funext i
  unfold cb zer
  by_cases q : i = 3
  · rw [if_pos q, if_neg (by omega), q]
  · rw [if_neg q]; omega
theorem tot_one {t : TX} {e : Nat → Int} (h : 0 ≤ pae t e 3) : tot t [e] = pae t e := cb_zer h
theorem csum_3 {F : (Nat → Int) → Nat → Int} (e : Nat → Int) : ∀ p, 0 ≤ csum F e p 3
  | 0 => Int.le_refl 0
  | p + 1 => by
    have ih := csum_3 (F := F) e p
    unfold csum
    split
    · show 0 ≤ (if csum F e p 3 < F (chd e p) 3 then F (chd e p) 3 else csum F e p 3)
      split <;> omega
    · exact ih
theorem pae_3 {t : TX} {e : Nat → Int} (hv : vbk e) : 0 ≤ pae t e 3 := by
  by_cases h : (spT t (bxe e)).2 < 0 ∨ ¬ (spT t (bxe e)).1 < 0 ∨ (e 0 = e 3 ∧ e 1 = e 4 ∧ e 2 = e 5)
  · rw [pae_leaf hv h]
    show 0 ≤ e 6
    exact hv.1.1
  · rw [(pae_part hv h).1]
    show 0 ≤ (if (0 : Int) < csum (pae t) e 8 3 then csum (pae t) e 8 3 else 0)
    split <;> omega
def rt0 : Nat → Int := en7 (-7) (-7) (-7) 7 7 7 0
theorem rt0_ok : vbk rt0 := by unfold vbk; decide
theorem cons_of {α : Type} {L : List α} (h : 0 < L.length) : ∃ e W, L = e :: W := by
  match L, h with
  | e :: W, _ => exact ⟨e, W, rfl⟩
set_option maxHeartbeats 400000 in
set_option maxRecDepth 100000 in
theorem c_Mo_puts (l : Launch) (D : va_G) (cT : Nat → ClassId) (ad : Nat → Nat) (I : Nat → Int32) (J : Nat → Int64) (a : Nat → Nat → Int32) (g : Nat → Nat → Int64)  (E : Nat → Int) (n : Nat) (hn : I 27 = nI n) (hn9 : n < 100) : MMv l D cT ad y_Mo_puts b_Mo_puts 9 none 0 0 [.int (iI (E 0)), .int (iI (E 1)), .int (iI (E 2)), .int (iI (E 3)), .int (iI (E 4)), .int (iI (E 5)), .int (iI (E 6))] I J a g (fun r => r = (upd I 27 (nI (n + 1)), J, va_up a 26 (pt (a 26) (fun c => iI (E c)) (7 * n) 7), g)) := by
  refine mo_entv (by decide) rfl (Nat.le_of_ble_eq_true rfl) ?_
  intro p e s m args below meth c Q hC hK hM hret ls hl
  have hx := hC.1
  have hb := hC.2.1
  replace hl : lv_has ls 9 [(0, .ref (ad 46)), (1, .int (iI (E 0))), (2, .int (iI (E 1))), (3, .int (iI (E 2))), (4, .int (iI (E 3))), (5, .int (iI (E 4))), (6, .int (iI (E 5))), (7, .int (iI (E 6)))] := hl
  refine lv_bipush (v := 7) hx hb d_Mo_puts_0 (by decide) ?_
  refine lv_aload_n hx hb d_Mo_puts_2 rfl (lv_at hl 0 rfl) ?_
  refine mo_geti hC hK hM 27 wf_Mo_225 rfl rfl (by decide) (v := nI n) (hn) d_Mo_puts_3 ?_
  refine lv_imul hx hb d_Mo_puts_6 ?_
  refine topi_eq (pk_mul 7 n) ?_
  refine lv_istore (lv' := [(8, .int (nI (7 * n))), (0, .ref (ad 46)), (1, .int (iI (E 0))), (2, .int (iI (E 1))), (3, .int (iI (E 2))), (4, .int (iI (E 3))), (5, .int (iI (E 4))), (6, .int (iI (E 5))), (7, .int (iI (E 6)))]) hx hb d_Mo_puts_7 hl (by decide) rfl (fun ls hl => ?_)
  refine lv_aload_n hx hb d_Mo_puts_9 rfl (lv_at hl 1 rfl) ?_
  refine mo_getr hC hK hM 26 wf_Mo_56 rfl (by decide) (by decide) d_Mo_puts_10 ?_
  refine lv_iload hx hb d_Mo_puts_13 (lv_at hl 0 rfl) ?_
  refine lv_iload_n hx hb d_Mo_puts_15 rfl (lv_at hl 2 rfl) ?_
  refine mo_iastN hC hK hM 26 (7 * n) (by decide) rfl (n := 700) rfl (by decide) (i := nI (7 * n)) (x := iI (E 0)) (rfl) (by omega) d_Mo_puts_16 (fun H locs hM => ?_)
  refine lv_aload_n hx hb d_Mo_puts_17 rfl (lv_at hl 1 rfl) ?_
  refine mo_getr hC hK hM 26 wf_Mo_56 rfl (by decide) (by decide) d_Mo_puts_18 ?_
  refine lv_iload hx hb d_Mo_puts_21 (lv_at hl 0 rfl) ?_
  refine lv_iconst (v := 1) hx hb d_Mo_puts_23 (by decide) ?_
  refine lv_iadd hx hb d_Mo_puts_24 ?_
  refine topi_eq (nI_add (7 * n) 1) ?_
  refine lv_iload_n hx hb d_Mo_puts_25 rfl (lv_at hl 3 rfl) ?_
  refine mo_iastN hC hK hM 26 ((7 * n) + 1) (by decide) rfl (n := 700) rfl (by decide) (i := nI ((7 * n) + 1)) (x := iI (E 1)) (rfl) (by omega) d_Mo_puts_26 (fun H locs hM => ?_)
  rw [bx_uu] at hM
  replace hM : MO D cT ad I J (va_up a 26 (upd (upd (a 26) (7 * n) (iI (E 0))) ((7 * n) + 1) (iI (E 1)))) g s.heap H locs := hM
  refine lv_aload_n hx hb d_Mo_puts_27 rfl (lv_at hl 1 rfl) ?_
  refine mo_getr hC hK hM 26 wf_Mo_56 rfl (by decide) (by decide) d_Mo_puts_28 ?_
  refine lv_iload hx hb d_Mo_puts_31 (lv_at hl 0 rfl) ?_
  refine lv_iconst (v := 2) hx hb d_Mo_puts_33 (by decide) ?_
  refine lv_iadd hx hb d_Mo_puts_34 ?_
  refine topi_eq (nI_add (7 * n) 2) ?_
  refine lv_iload_n hx hb d_Mo_puts_35 rfl (lv_at hl 4 rfl) ?_
  refine mo_iastN hC hK hM 26 ((7 * n) + 2) (by decide) rfl (n := 700) rfl (by decide) (i := nI ((7 * n) + 2)) (x := iI (E 2)) (rfl) (by omega) d_Mo_puts_36 (fun H locs hM => ?_)
  rw [bx_uu] at hM
  replace hM : MO D cT ad I J (va_up a 26 (upd (upd (upd (a 26) (7 * n) (iI (E 0))) ((7 * n) + 1) (iI (E 1))) ((7 * n) + 2) (iI (E 2)))) g s.heap H locs := hM
  refine lv_aload_n hx hb d_Mo_puts_37 rfl (lv_at hl 1 rfl) ?_
  refine mo_getr hC hK hM 26 wf_Mo_56 rfl (by decide) (by decide) d_Mo_puts_38 ?_
  refine lv_iload hx hb d_Mo_puts_41 (lv_at hl 0 rfl) ?_
  refine lv_iconst (v := 3) hx hb d_Mo_puts_43 (by decide) ?_
  refine lv_iadd hx hb d_Mo_puts_44 ?_
  refine topi_eq (nI_add (7 * n) 3) ?_
  refine lv_iload hx hb d_Mo_puts_45 (lv_at hl 5 rfl) ?_
  refine mo_iastN hC hK hM 26 ((7 * n) + 3) (by decide) rfl (n := 700) rfl (by decide) (i := nI ((7 * n) + 3)) (x := iI (E 3)) (rfl) (by omega) d_Mo_puts_47 (fun H locs hM => ?_)
  rw [bx_uu] at hM
  replace hM : MO D cT ad I J (va_up a 26 (upd (upd (upd (upd (a 26) (7 * n) (iI (E 0))) ((7 * n) + 1) (iI (E 1))) ((7 * n) + 2) (iI (E 2))) ((7 * n) + 3) (iI (E 3)))) g s.heap H locs := hM
  refine lv_aload_n hx hb d_Mo_puts_48 rfl (lv_at hl 1 rfl) ?_
  refine mo_getr hC hK hM 26 wf_Mo_56 rfl (by decide) (by decide) d_Mo_puts_49 ?_
  refine lv_iload hx hb d_Mo_puts_52 (lv_at hl 0 rfl) ?_
  refine lv_iconst (v := 4) hx hb d_Mo_puts_54 (by decide) ?_
  refine lv_iadd hx hb d_Mo_puts_55 ?_
  refine topi_eq (nI_add (7 * n) 4) ?_
  refine lv_iload hx hb d_Mo_puts_56 (lv_at hl 6 rfl) ?_
  refine mo_iastN hC hK hM 26 ((7 * n) + 4) (by decide) rfl (n := 700) rfl (by decide) (i := nI ((7 * n) + 4)) (x := iI (E 4)) (rfl) (by omega) d_Mo_puts_58 (fun H locs hM => ?_)
  rw [bx_uu] at hM
  replace hM : MO D cT ad I J (va_up a 26 (upd (upd (upd (upd (upd (a 26) (7 * n) (iI (E 0))) ((7 * n) + 1) (iI (E 1))) ((7 * n) + 2) (iI (E 2))) ((7 * n) + 3) (iI (E 3))) ((7 * n) + 4) (iI (E 4)))) g s.heap H locs := hM
  refine lv_aload_n hx hb d_Mo_puts_59 rfl (lv_at hl 1 rfl) ?_
  refine mo_getr hC hK hM 26 wf_Mo_56 rfl (by decide) (by decide) d_Mo_puts_60 ?_
  refine lv_iload hx hb d_Mo_puts_63 (lv_at hl 0 rfl) ?_
  refine lv_iconst (v := 5) hx hb d_Mo_puts_65 (by decide) ?_
  refine lv_iadd hx hb d_Mo_puts_66 ?_
  refine topi_eq (nI_add (7 * n) 5) ?_
  refine lv_iload hx hb d_Mo_puts_67 (lv_at hl 7 rfl) ?_
  refine mo_iastN hC hK hM 26 ((7 * n) + 5) (by decide) rfl (n := 700) rfl (by decide) (i := nI ((7 * n) + 5)) (x := iI (E 5)) (rfl) (by omega) d_Mo_puts_69 (fun H locs hM => ?_)
  rw [bx_uu] at hM
  replace hM : MO D cT ad I J (va_up a 26 (upd (upd (upd (upd (upd (upd (a 26) (7 * n) (iI (E 0))) ((7 * n) + 1) (iI (E 1))) ((7 * n) + 2) (iI (E 2))) ((7 * n) + 3) (iI (E 3))) ((7 * n) + 4) (iI (E 4))) ((7 * n) + 5) (iI (E 5)))) g s.heap H locs := hM
  refine lv_aload_n hx hb d_Mo_puts_70 rfl (lv_at hl 1 rfl) ?_
  refine mo_getr hC hK hM 26 wf_Mo_56 rfl (by decide) (by decide) d_Mo_puts_71 ?_
  refine lv_iload hx hb d_Mo_puts_74 (lv_at hl 0 rfl) ?_
  refine lv_bipush (v := 6) hx hb d_Mo_puts_76 (by decide) ?_
  refine lv_iadd hx hb d_Mo_puts_78 ?_
  refine topi_eq (nI_add (7 * n) 6) ?_
  refine lv_iload hx hb d_Mo_puts_79 (lv_at hl 8 rfl) ?_
  refine mo_iastN hC hK hM 26 ((7 * n) + 6) (by decide) rfl (n := 700) rfl (by decide) (i := nI ((7 * n) + 6)) (x := iI (E 6)) (rfl) (by omega) d_Mo_puts_81 (fun H locs hM => ?_)
  rw [bx_uu] at hM
  replace hM : MO D cT ad I J (va_up a 26 (upd (upd (upd (upd (upd (upd (upd (a 26) (7 * n) (iI (E 0))) ((7 * n) + 1) (iI (E 1))) ((7 * n) + 2) (iI (E 2))) ((7 * n) + 3) (iI (E 3))) ((7 * n) + 4) (iI (E 4))) ((7 * n) + 5) (iI (E 5))) ((7 * n) + 6) (iI (E 6)))) g s.heap H locs := hM
  refine lv_aload_n hx hb d_Mo_puts_82 rfl (lv_at hl 1 rfl) ?_
  refine lv_dup hx hb d_Mo_puts_83 rfl ?_
  refine mo_geti hC hK hM 27 wf_Mo_225 rfl rfl (by decide) (v := nI n) (hn) d_Mo_puts_84 ?_
  refine lv_iconst (v := 1) hx hb d_Mo_puts_87 (by decide) ?_
  refine lv_iadd hx hb d_Mo_puts_88 ?_
  refine topi_eq (nI_add n 1) ?_
  refine mo_puti hC hK hM 27 wf_Mo_225 rfl rfl (by decide) rfl (by decide +kernel) (x := nI (n + 1)) d_Mo_puts_89 (fun H locs hM => ?_)
  refine hret _ _ _ _ _ _ _ _ d_Mo_puts_92 hM ?_
  rw [up7]
