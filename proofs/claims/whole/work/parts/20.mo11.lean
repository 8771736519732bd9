/-! the reference: puts, partAll, parted -/
theorem cb_zer {A : Nat → Int} (h : 0 ≤ A 3) : cb A zer = A := by
  funext i
  unfold cb zer
  by_cases q : i = 3
  · rw [if_pos q, if_neg (by omega), q]
  · rw [if_neg q]; omega
theorem tot_one {t : TX} {e : Nat → Int} (h : 0 ≤ pae t e 3) : tot t [e] = pae t e := cb_zer h
theorem csum_3 {F : (Nat → Int) → Nat → Int} (e : Nat → Int) : ∀ p, 0 ≤ csum F e p 3
  | 0 => Int.le_refl 0
  | p + 1 => by
    have ih := csum_3 (F := F) e p
    unfold csum
    split
    · show 0 ≤ (if csum F e p 3 < F (chd e p) 3 then F (chd e p) 3 else csum F e p 3)
      split <;> omega
    · exact ih
theorem pae_3 {t : TX} {e : Nat → Int} (hv : vbk e) : 0 ≤ pae t e 3 := by
  by_cases h : (spT t (bxe e)).2 < 0 ∨ ¬ (spT t (bxe e)).1 < 0 ∨ (e 0 = e 3 ∧ e 1 = e 4 ∧ e 2 = e 5)
  · rw [pae_leaf hv h]
    show 0 ≤ e 6
    exact hv.1.1
  · rw [(pae_part hv h).1]
    show 0 ≤ (if (0 : Int) < csum (pae t) e 8 3 then csum (pae t) e 8 3 else 0)
    split <;> omega
def rt0 : Nat → Int := en7 (-7) (-7) (-7) 7 7 7 0
theorem rt0_ok : vbk rt0 := by unfold vbk; decide
theorem cons_of {α : Type} {L : List α} (h : 0 < L.length) : ∃ e W, L = e :: W := by
  match L, h with
  | e :: W, _ => exact ⟨e, W, rfl⟩
theorem okS_len : ∀ {W : List (Nat → Int)}, okS W → W.length ≤ 100
  | [], _ => Nat.zero_le _
  | e :: W, h => by
    obtain ⟨hv, h2, -⟩ := h
    have := hv.1
    simp only [List.length_cons]
    omega
theorem tot_3 {t : TX} : ∀ {W : List (Nat → Int)}, okS W → 0 ≤ tot t W 3
  | [], _ => Int.le_refl 0
  | e :: W, h => by
    have h1 := pae_3 (t := t) h.1
    show 0 ≤ (if pae t e 3 < tot t W 3 then tot t W 3 else pae t e 3)
    split <;> omega
def inc4 (A : Nat → Int) (i : Nat) : Int := if i = 4 then A 4 + 1 else A i
theorem inc4_cb {A : Nat → Int} (h : 0 ≤ A 3) : inc4 A = cb A one4 := by
  funext i
  unfold inc4 cb one4
  by_cases h4 : i = 4
  · subst h4; rfl
  · rw [if_neg h4]
    by_cases h3 : i = 3
    · rw [if_pos h3, if_neg (by rw [if_neg (by decide)]; omega), h3]
    · rw [if_neg h3, if_neg h4]; omega
theorem pl_leaf {t : TX} {A e1 R : Nat → Int} {W1 : List (Nat → Int)} (hv : vbk e1) (hlf : (spT t (bxe e1)).2 < 0 ∨ ¬ (spT t (bxe e1)).1 < 0 ∨ (e1 0 = e1 3 ∧ e1 1 = e1 4 ∧ e1 2 = e1 5)) (h : cb A (tot t (e1 :: W1)) = R) : cb (cb A (lfR t e1)) (tot t W1) = R ∧ (tot t W1 4).toNat < (tot t (e1 :: W1) 4).toNat := by
  have e : tot t (e1 :: W1) = cb (lfR t e1) (tot t W1) := by show cb (pae t e1) (tot t W1) = _; rw [pae_leaf hv hlf]
  have h4 := tot_4 t W1
  refine ⟨by rw [cb_assoc, ← e]; exact h, ?_⟩
  rw [e, cb_4]
  show (tot t W1 4).toNat < (1 + tot t W1 4).toNat
  omega
theorem pl_part {t : TX} {A e1 R : Nat → Int} {W1 Wp : List (Nat → Int)} (hA : 0 ≤ A 3) (hv : vbk e1) (hlf : ¬ ((spT t (bxe e1)).2 < 0 ∨ ¬ (spT t (bxe e1)).1 < 0 ∨ (e1 0 = e1 3 ∧ e1 1 = e1 4 ∧ e1 2 = e1 5))) (hp : tot t Wp = cb (csum (pae t) e1 8) (tot t W1)) (h : cb A (tot t (e1 :: W1)) = R) : cb (inc4 A) (tot t Wp) = R ∧ (tot t Wp 4).toNat < (tot t (e1 :: W1) 4).toNat := by
  have e : tot t (e1 :: W1) = cb (cb one4 (csum (pae t) e1 8)) (tot t W1) := by show cb (pae t e1) (tot t W1) = _; rw [(pae_part hv hlf).1]
  have h4 := tot_4 t Wp
  refine ⟨by rw [inc4_cb hA, hp, cb_assoc, ← cb_assoc one4, ← e]; exact h, ?_⟩
  rw [e, cb_assoc, ← hp, cb_4]
  show (tot t Wp 4).toNat < (1 + tot t Wp 4).toNat
  omega
theorem pl_push {t : TX} {e1 : Nat → Int} {W1 Wp : List (Nat → Int)} {p : Nat} (hp : tot t Wp = cb (csum (pae t) e1 p) (tot t W1)) (h : ¬ (p % 2 = 1 ∧ e1 0 = e1 3) ∧ ¬ (2 * (p / 2 % 2) = 2 ∧ e1 1 = e1 4) ∧ ¬ (4 * (p / 4 % 2) = 4 ∧ e1 2 = e1 5)) : tot t (chd e1 p :: Wp) = cb (csum (pae t) e1 (p + 1)) (tot t W1) := by
  show cb (pae t (chd e1 p)) (tot t Wp) = _
  rw [hp, csum_y h, ← cb_assoc, cb_comm (pae t (chd e1 p))]
theorem lf_1 (A : Nat → Int) (t : TX) (e : Nat → Int) : cb A (lfR t e) 1 = A 1 + ((if (spT t (bx6 (e 0) (e 3) (e 1) (e 4) (e 2) (e 5))).2 < 0 then 1 else 0 : Nat) : Int) := by
  show A 1 + (if (spT t (bx6 (e 0) (e 3) (e 1) (e 4) (e 2) (e 5))).2 < 0 then 1 else 0) = _
  split <;> rfl
set_option maxHeartbeats 400000 in
set_option maxRecDepth 100000 in
theorem c_Mo_puts (l : Launch) (D : va_G) (cT : Nat → ClassId) (ad : Nat → Nat) (I : Nat → Int32) (J : Nat → Int64) (a : Nat → Nat → Int32) (g : Nat → Nat → Int64)  (E : Nat → Int) (n : Nat) (hn : I 27 = nI n) (hn9 : n < 100) : MMv l D cT ad y_Mo_puts b_Mo_puts 9 none 0 0 [.int (iI (E 0)), .int (iI (E 1)), .int (iI (E 2)), .int (iI (E 3)), .int (iI (E 4)), .int (iI (E 5)), .int (iI (E 6))] I J a g (fun r => r = (upd I 27 (nI (n + 1)), J, va_up a 26 (pt (a 26) (fun c => iI (E c)) (7 * n) 7), g)) := by
  refine mo_entv (by decide) rfl (Nat.le_of_ble_eq_true rfl) ?_
  intro p e s m args below meth c Q hC hK hM hret ls hl
  have hx := hC.1
  have hb := hC.2.1
  replace hl : lv_has ls 9 [(0, .ref (ad 46)), (1, .int (iI (E 0))), (2, .int (iI (E 1))), (3, .int (iI (E 2))), (4, .int (iI (E 3))), (5, .int (iI (E 4))), (6, .int (iI (E 5))), (7, .int (iI (E 6)))] := hl
  refine lv_bipush (v := 7) hx hb d_Mo_puts_0 (by decide) ?_
  refine lv_aload_n hx hb d_Mo_puts_2 rfl (lv_at hl 0 rfl) ?_
  refine mo_geti hC hK hM 27 wf_Mo_225 rfl rfl (by decide) (v := nI n) (hn) d_Mo_puts_3 ?_
  refine lv_imul hx hb d_Mo_puts_6 ?_
  refine topi_eq (pk_mul 7 n) ?_
  refine lv_istore (lv' := [(8, .int (nI (7 * n))), (0, .ref (ad 46)), (1, .int (iI (E 0))), (2, .int (iI (E 1))), (3, .int (iI (E 2))), (4, .int (iI (E 3))), (5, .int (iI (E 4))), (6, .int (iI (E 5))), (7, .int (iI (E 6)))]) hx hb d_Mo_puts_7 hl (by decide) rfl (fun ls hl => ?_)
  refine lv_aload_n hx hb d_Mo_puts_9 rfl (lv_at hl 1 rfl) ?_
  refine mo_getr hC hK hM 26 wf_Mo_56 rfl (by decide) (by decide) d_Mo_puts_10 ?_
  refine lv_iload hx hb d_Mo_puts_13 (lv_at hl 0 rfl) ?_
  refine lv_iload_n hx hb d_Mo_puts_15 rfl (lv_at hl 2 rfl) ?_
  refine mo_iastN hC hK hM 26 (7 * n) (by decide) rfl (n := 700) rfl (by decide) (i := nI (7 * n)) (x := iI (E 0)) (rfl) (by omega) d_Mo_puts_16 (fun H locs hM => ?_)
  refine lv_aload_n hx hb d_Mo_puts_17 rfl (lv_at hl 1 rfl) ?_
  refine mo_getr hC hK hM 26 wf_Mo_56 rfl (by decide) (by decide) d_Mo_puts_18 ?_
  refine lv_iload hx hb d_Mo_puts_21 (lv_at hl 0 rfl) ?_
  refine lv_iconst (v := 1) hx hb d_Mo_puts_23 (by decide) ?_
  refine lv_iadd hx hb d_Mo_puts_24 ?_
  refine topi_eq (nI_add (7 * n) 1) ?_
  refine lv_iload_n hx hb d_Mo_puts_25 rfl (lv_at hl 3 rfl) ?_
  refine mo_iastN hC hK hM 26 ((7 * n) + 1) (by decide) rfl (n := 700) rfl (by decide) (i := nI ((7 * n) + 1)) (x := iI (E 1)) (rfl) (by omega) d_Mo_puts_26 (fun H locs hM => ?_)
  rw [bx_uu] at hM
  replace hM : MO D cT ad I J (va_up a 26 (upd (upd (a 26) (7 * n) (iI (E 0))) ((7 * n) + 1) (iI (E 1)))) g s.heap H locs := hM
  refine lv_aload_n hx hb d_Mo_puts_27 rfl (lv_at hl 1 rfl) ?_
  refine mo_getr hC hK hM 26 wf_Mo_56 rfl (by decide) (by decide) d_Mo_puts_28 ?_
  refine lv_iload hx hb d_Mo_puts_31 (lv_at hl 0 rfl) ?_
  refine lv_iconst (v := 2) hx hb d_Mo_puts_33 (by decide) ?_
  refine lv_iadd hx hb d_Mo_puts_34 ?_
  refine topi_eq (nI_add (7 * n) 2) ?_
  refine lv_iload_n hx hb d_Mo_puts_35 rfl (lv_at hl 4 rfl) ?_
  refine mo_iastN hC hK hM 26 ((7 * n) + 2) (by decide) rfl (n := 700) rfl (by decide) (i := nI ((7 * n) + 2)) (x := iI (E 2)) (rfl) (by omega) d_Mo_puts_36 (fun H locs hM => ?_)
  rw [bx_uu] at hM
  replace hM : MO D cT ad I J (va_up a 26 (upd (upd (upd (a 26) (7 * n) (iI (E 0))) ((7 * n) + 1) (iI (E 1))) ((7 * n) + 2) (iI (E 2)))) g s.heap H locs := hM
  refine lv_aload_n hx hb d_Mo_puts_37 rfl (lv_at hl 1 rfl) ?_
  refine mo_getr hC hK hM 26 wf_Mo_56 rfl (by decide) (by decide) d_Mo_puts_38 ?_
  refine lv_iload hx hb d_Mo_puts_41 (lv_at hl 0 rfl) ?_
  refine lv_iconst (v := 3) hx hb d_Mo_puts_43 (by decide) ?_
  refine lv_iadd hx hb d_Mo_puts_44 ?_
  refine topi_eq (nI_add (7 * n) 3) ?_
  refine lv_iload hx hb d_Mo_puts_45 (lv_at hl 5 rfl) ?_
  refine mo_iastN hC hK hM 26 ((7 * n) + 3) (by decide) rfl (n := 700) rfl (by decide) (i := nI ((7 * n) + 3)) (x := iI (E 3)) (rfl) (by omega) d_Mo_puts_47 (fun H locs hM => ?_)
  rw [bx_uu] at hM
  replace hM : MO D cT ad I J (va_up a 26 (upd (upd (upd (upd (a 26) (7 * n) (iI (E 0))) ((7 * n) + 1) (iI (E 1))) ((7 * n) + 2) (iI (E 2))) ((7 * n) + 3) (iI (E 3)))) g s.heap H locs := hM
  refine lv_aload_n hx hb d_Mo_puts_48 rfl (lv_at hl 1 rfl) ?_
  refine mo_getr hC hK hM 26 wf_Mo_56 rfl (by decide) (by decide) d_Mo_puts_49 ?_
  refine lv_iload hx hb d_Mo_puts_52 (lv_at hl 0 rfl) ?_
  refine lv_iconst (v := 4) hx hb d_Mo_puts_54 (by decide) ?_
  refine lv_iadd hx hb d_Mo_puts_55 ?_
  refine topi_eq (nI_add (7 * n) 4) ?_
  refine lv_iload hx hb d_Mo_puts_56 (lv_at hl 6 rfl) ?_
  refine mo_iastN hC hK hM 26 ((7 * n) + 4) (by decide) rfl (n := 700) rfl (by decide) (i := nI ((7 * n) + 4)) (x := iI (E 4)) (rfl) (by omega) d_Mo_puts_58 (fun H locs hM => ?_)
  rw [bx_uu] at hM
  replace hM : MO D cT ad I J (va_up a 26 (upd (upd (upd (upd (upd (a 26) (7 * n) (iI (E 0))) ((7 * n) + 1) (iI (E 1))) ((7 * n) + 2) (iI (E 2))) ((7 * n) + 3) (iI (E 3))) ((7 * n) + 4) (iI (E 4)))) g s.heap H locs := hM
  refine lv_aload_n hx hb d_Mo_puts_59 rfl (lv_at hl 1 rfl) ?_
  refine mo_getr hC hK hM 26 wf_Mo_56 rfl (by decide) (by decide) d_Mo_puts_60 ?_
  refine lv_iload hx hb d_Mo_puts_63 (lv_at hl 0 rfl) ?_
  refine lv_iconst (v := 5) hx hb d_Mo_puts_65 (by decide) ?_
  refine lv_iadd hx hb d_Mo_puts_66 ?_
  refine topi_eq (nI_add (7 * n) 5) ?_
  refine lv_iload hx hb d_Mo_puts_67 (lv_at hl 7 rfl) ?_
  refine mo_iastN hC hK hM 26 ((7 * n) + 5) (by decide) rfl (n := 700) rfl (by decide) (i := nI ((7 * n) + 5)) (x := iI (E 5)) (rfl) (by omega) d_Mo_puts_69 (fun H locs hM => ?_)
  rw [bx_uu] at hM
  replace hM : MO D cT ad I J (va_up a 26 (upd (upd (upd (upd (upd (upd (a 26) (7 * n) (iI (E 0))) ((7 * n) + 1) (iI (E 1))) ((7 * n) + 2) (iI (E 2))) ((7 * n) + 3) (iI (E 3))) ((7 * n) + 4) (iI (E 4))) ((7 * n) + 5) (iI (E 5)))) g s.heap H locs := hM
  refine lv_aload_n hx hb d_Mo_puts_70 rfl (lv_at hl 1 rfl) ?_
  refine mo_getr hC hK hM 26 wf_Mo_56 rfl (by decide) (by decide) d_Mo_puts_71 ?_
  refine lv_iload hx hb d_Mo_puts_74 (lv_at hl 0 rfl) ?_
  refine lv_bipush (v := 6) hx hb d_Mo_puts_76 (by decide) ?_
  refine lv_iadd hx hb d_Mo_puts_78 ?_
  refine topi_eq (nI_add (7 * n) 6) ?_
  refine lv_iload hx hb d_Mo_puts_79 (lv_at hl 8 rfl) ?_
  refine mo_iastN hC hK hM 26 ((7 * n) + 6) (by decide) rfl (n := 700) rfl (by decide) (i := nI ((7 * n) + 6)) (x := iI (E 6)) (rfl) (by omega) d_Mo_puts_81 (fun H locs hM => ?_)
  rw [bx_uu] at hM
  replace hM : MO D cT ad I J (va_up a 26 (upd (upd (upd (upd (upd (upd (upd (a 26) (7 * n) (iI (E 0))) ((7 * n) + 1) (iI (E 1))) ((7 * n) + 2) (iI (E 2))) ((7 * n) + 3) (iI (E 3))) ((7 * n) + 4) (iI (E 4))) ((7 * n) + 5) (iI (E 5))) ((7 * n) + 6) (iI (E 6)))) g s.heap H locs := hM
  refine lv_aload_n hx hb d_Mo_puts_82 rfl (lv_at hl 1 rfl) ?_
  refine lv_dup hx hb d_Mo_puts_83 rfl ?_
  refine mo_geti hC hK hM 27 wf_Mo_225 rfl rfl (by decide) (v := nI n) (hn) d_Mo_puts_84 ?_
  refine lv_iconst (v := 1) hx hb d_Mo_puts_87 (by decide) ?_
  refine lv_iadd hx hb d_Mo_puts_88 ?_
  refine topi_eq (nI_add n 1) ?_
  refine mo_puti hC hK hM 27 wf_Mo_225 rfl rfl (by decide) rfl (by decide +kernel) (x := nI (n + 1)) d_Mo_puts_89 (fun H locs hM => ?_)
  refine hret _ _ _ _ _ _ _ _ d_Mo_puts_92 hM ?_
  rw [up7]
set_option maxHeartbeats 2000000 in
set_option maxRecDepth 100000 in
theorem c_Mo_partAll (l : Launch) (D : va_G) (cT : Nat → ClassId) (ad : Nat → Nat) (I : Nat → Int32) (J : Nat → Int64) (a : Nat → Nat → Int32) (g : Nat → Nat → Int64) (b : Nat) (t : TX) (hb8 : b < 8) (hT : BDT a b t) : MMv l D cT ad y_Mo_partAll b_Mo_partAll 17 none 4 123 [.int (nI b)] I J a g (fun u => SP I a u ∧ u.1 28 = iI (pae t rt0 0) ∧ u.1 29 = iI (pae t rt0 1) ∧ u.1 30 = iI (pae t rt0 2) ∧ u.1 31 = iI (pae t rt0 3) ∧ u.1 32 = iI (pae t rt0 4)) := by
  refine mo_entv (by decide) rfl (Nat.le_of_ble_eq_true rfl) ?_
  intro p e s m args below meth c Q hC hK hM hret ls hl
  have hx := hC.1
  have hb := hC.2.1
  replace hl : lv_has ls 17 [(0, .ref (ad 46)), (1, .int (nI b))] := hl
  refine lv_aload_n hx hb d_Mo_partAll_0 rfl (lv_at hl 0 rfl) ?_
  refine lv_iconst (v := 0) hx hb d_Mo_partAll_1 (by decide) ?_
  refine mo_puti hC hK hM 28 wf_Mo_228 rfl rfl (by decide) rfl (by decide +kernel) (x := 0) d_Mo_partAll_2 (fun H locs hM => ?_)
  refine lv_aload_n hx hb d_Mo_partAll_5 rfl (lv_at hl 0 rfl) ?_
  refine lv_iconst (v := 0) hx hb d_Mo_partAll_6 (by decide) ?_
  refine mo_puti hC hK hM 29 wf_Mo_231 rfl rfl (by decide) rfl (by decide +kernel) (x := 0) d_Mo_partAll_7 (fun H locs hM => ?_)
  refine lv_aload_n hx hb d_Mo_partAll_10 rfl (lv_at hl 0 rfl) ?_
  refine lv_iconst (v := 0) hx hb d_Mo_partAll_11 (by decide) ?_
  refine mo_puti hC hK hM 30 wf_Mo_234 rfl rfl (by decide) rfl (by decide +kernel) (x := 0) d_Mo_partAll_12 (fun H locs hM => ?_)
  refine lv_aload_n hx hb d_Mo_partAll_15 rfl (lv_at hl 0 rfl) ?_
  refine lv_iconst (v := 0) hx hb d_Mo_partAll_16 (by decide) ?_
  refine mo_puti hC hK hM 31 wf_Mo_237 rfl rfl (by decide) rfl (by decide +kernel) (x := 0) d_Mo_partAll_17 (fun H locs hM => ?_)
  refine lv_aload_n hx hb d_Mo_partAll_20 rfl (lv_at hl 0 rfl) ?_
  refine lv_iconst (v := 0) hx hb d_Mo_partAll_21 (by decide) ?_
  refine mo_puti hC hK hM 32 wf_Mo_240 rfl rfl (by decide) rfl (by decide +kernel) (x := 0) d_Mo_partAll_22 (fun H locs hM => ?_)
  refine lv_aload_n hx hb d_Mo_partAll_25 rfl (lv_at hl 0 rfl) ?_
  refine lv_iconst (v := 0) hx hb d_Mo_partAll_26 (by decide) ?_
  refine mo_puti hC hK hM 27 wf_Mo_225 rfl rfl (by decide) rfl (by decide +kernel) (x := 0) d_Mo_partAll_27 (fun H locs hM => ?_)
  refine lv_aload_n hx hb d_Mo_partAll_30 rfl (lv_at hl 0 rfl) ?_
  refine lv_bipush (v := (-7)) hx hb d_Mo_partAll_31 (by decide) ?_
  refine topi_eq (show ((-7) : Int32) = iI (-7) by decide) ?_
  refine lv_bipush (v := (-7)) hx hb d_Mo_partAll_33 (by decide) ?_
  refine topi_eq (show ((-7) : Int32) = iI (-7) by decide) ?_
  refine lv_bipush (v := (-7)) hx hb d_Mo_partAll_35 (by decide) ?_
  refine topi_eq (show ((-7) : Int32) = iI (-7) by decide) ?_
  refine lv_bipush (v := 7) hx hb d_Mo_partAll_37 (by decide) ?_
  refine lv_bipush (v := 7) hx hb d_Mo_partAll_39 (by decide) ?_
  refine lv_bipush (v := 7) hx hb d_Mo_partAll_41 (by decide) ?_
  refine lv_iconst (v := 0) hx hb d_Mo_partAll_43 (by decide) ?_
  refine mo_callv (np := 7) hC hK hM (c_Mo_puts l D cT ad (upd (upd (upd (upd (upd (upd I 28 0) 29 0) 30 0) 31 0) 32 0) 27 0) J a g  (en7 (-7) (-7) (-7) 7 7 7 0) 0 rfl (by omega)) rfl ⟨wl_Mo_243, wi_Mo_puts, ws_Mo_puts, wc_Mo_puts, wn_Mo⟩ ⟨by decide, by decide, by decide +kernel⟩ ⟨Nat.le_of_ble_eq_true rfl, Nat.le_of_ble_eq_true rfl⟩ hl.1 rfl (rest := []) rfl (Nat.le_of_ble_eq_true rfl) ⟨Nat.zero_le _, Nat.zero_le _⟩ d_Mo_partAll_44 (fun I1 J1 a1 g1 H locs hp1 hM => ?_)
  cases hp1
  rw [upd_upd] at hM
  have hL47 : ∀ (nn : Nat) (A : Nat → Int) (Ws : List (Nat → Int)) (f26 : Nat → Int32) (J2 : Nat → Int64) (g2 : Nat → Nat → Int64) (H : Heap) (locs : List Loc) (ls : Array Slot), (tot t Ws 4).toNat < nn → (WR f26 Ws) → (okS Ws) → (cb A (tot t Ws) = pae t rt0) → (0 ≤ A 3 ∧ A 3 ≤ 4) → MO D cT ad (upd (upd (upd (upd (upd (upd I 28 (iI (A 0))) 29 (iI (A 1))) 30 (iI (A 2))) 31 (iI (A 3))) 32 (iI (A 4))) 27 (nI Ws.length)) J2 (va_up a 26 f26) g2 s.heap H locs → lv_has ls 17 [(0, .ref (ad 46)), (1, .int (nI b))] → W p l e (rmOf 4 123) s m args below meth c H locs 0 0 Q (F0 m 47 ls []) := by
    intro nn
    induction nn with
    | zero =>
      intro A Ws f26 J2 g2 H locs ls hmeas47 hWR hok htot hA hM hl
      exact absurd hmeas47 (Nat.not_lt_zero _)
    | succ nn ih47 =>
      intro A Ws f26 J2 g2 H locs ls hmeas47 hWR hok htot hA hM hl
      refine lv_aload_n hx hb d_Mo_partAll_47 rfl (lv_at hl 0 rfl) ?_
      refine mo_geti hC hK hM 27 wf_Mo_225 rfl rfl (by decide) (v := nI Ws.length) (rfl) d_Mo_partAll_48 ?_
      refine nz_le hx hb Ws.length (by have := okS_len hok; omega) d_Mo_partAll_51 (tgt := 538) (by decide) (fun h2 => ?_) (fun h2 => ?_)
      · skip
        refine hret _ _ _ _ _ _ _ _ d_Mo_partAll_538 hM ?_
        obtain rfl : Ws = [] := List.eq_nil_of_length_eq_zero (by omega)
        have hAe : A = pae t rt0 := by rw [← htot]; exact (cb_zer hA.1).symm
        refine ⟨⟨rfl, rfl, rfl, fun k hk => va_up_ne _ _ (by omega)⟩, ?_⟩
        rw [← hAe]
        exact ⟨rfl, rfl, rfl, rfl, rfl⟩
      · skip
        obtain ⟨e1, W1, rfl⟩ := cons_of (L := Ws) (by omega)
        obtain ⟨hw, hWR1⟩ := WR_pop hWR
        obtain ⟨hv, hlen, hok1⟩ := hok
        obtain ⟨hv6, hvx, hvy, hvz⟩ := id hv
        have hl1 := okS_len hok1
        rw [show (e1 :: W1).length = W1.length + 1 from rfl] at hM
        refine lv_aload_n hx hb d_Mo_partAll_54 rfl (lv_at hl 0 rfl) ?_
        refine lv_dup hx hb d_Mo_partAll_55 rfl ?_
        refine mo_geti hC hK hM 27 wf_Mo_225 rfl rfl (by decide) (v := nI (W1.length + 1)) (rfl) d_Mo_partAll_56 ?_
        refine lv_iconst (v := 1) hx hb d_Mo_partAll_59 (by decide) ?_
        refine lv_isub hx hb d_Mo_partAll_60 ?_
        refine topi_eq (iI_sub (↑(W1.length + 1) : Int) 1) ?_
        refine topi_eq (iI_nI (n := W1.length) (by omega)) ?_
        refine mo_puti hC hK hM 27 wf_Mo_225 rfl rfl (by decide) rfl (by decide +kernel) (x := nI W1.length) d_Mo_partAll_61 (fun H locs hM => ?_)
        rw [upd_upd] at hM
        refine lv_bipush (v := 7) hx hb d_Mo_partAll_64 (by decide) ?_
        refine lv_aload_n hx hb d_Mo_partAll_66 rfl (lv_at hl 0 rfl) ?_
        refine mo_geti hC hK hM 27 wf_Mo_225 rfl rfl (by decide) (v := nI W1.length) (rfl) d_Mo_partAll_67 ?_
        refine lv_imul hx hb d_Mo_partAll_70 ?_
        refine topi_eq (pk_mul 7 W1.length) ?_
        refine lv_istore_n (lv' := [(2, .int (nI (7 * W1.length))), (0, .ref (ad 46)), (1, .int (nI b))]) hx hb d_Mo_partAll_71 rfl hl (by decide) rfl (fun ls hl => ?_)
        refine lv_aload_n hx hb d_Mo_partAll_72 rfl (lv_at hl 1 rfl) ?_
        refine mo_getr hC hK hM 26 wf_Mo_56 rfl (by decide) (by decide) d_Mo_partAll_73 ?_
        refine lv_iload_n hx hb d_Mo_partAll_76 rfl (lv_at hl 0 rfl) ?_
        refine mo_ialdN hC hK hM 26 (7 * W1.length) (by decide) rfl (n := 700) rfl (by decide) (i := nI (7 * W1.length)) (rfl) (by omega) (v := iI (e1 0)) (hw 0 (by decide)) d_Mo_partAll_77 ?_
        refine lv_istore_n (lv' := [(3, .int (iI (e1 0))), (2, .int (nI (7 * W1.length))), (0, .ref (ad 46)), (1, .int (nI b))]) hx hb d_Mo_partAll_78 rfl hl (by decide) rfl (fun ls hl => ?_)
        refine lv_aload_n hx hb d_Mo_partAll_79 rfl (lv_at hl 2 rfl) ?_
        refine mo_getr hC hK hM 26 wf_Mo_56 rfl (by decide) (by decide) d_Mo_partAll_80 ?_
        refine lv_iload_n hx hb d_Mo_partAll_83 rfl (lv_at hl 1 rfl) ?_
        refine lv_iconst (v := 1) hx hb d_Mo_partAll_84 (by decide) ?_
        refine lv_iadd hx hb d_Mo_partAll_85 ?_
        refine topi_eq (nI_add (7 * W1.length) 1) ?_
        refine mo_ialdN hC hK hM 26 ((7 * W1.length) + 1) (by decide) rfl (n := 700) rfl (by decide) (i := nI ((7 * W1.length) + 1)) (rfl) (by omega) (v := iI (e1 1)) (hw 1 (by decide)) d_Mo_partAll_86 ?_
        refine lv_istore (lv' := [(4, .int (iI (e1 1))), (3, .int (iI (e1 0))), (2, .int (nI (7 * W1.length))), (0, .ref (ad 46)), (1, .int (nI b))]) hx hb d_Mo_partAll_87 hl (by decide) rfl (fun ls hl => ?_)
        refine lv_aload_n hx hb d_Mo_partAll_89 rfl (lv_at hl 3 rfl) ?_
        refine mo_getr hC hK hM 26 wf_Mo_56 rfl (by decide) (by decide) d_Mo_partAll_90 ?_
        refine lv_iload_n hx hb d_Mo_partAll_93 rfl (lv_at hl 2 rfl) ?_
        refine lv_iconst (v := 2) hx hb d_Mo_partAll_94 (by decide) ?_
        refine lv_iadd hx hb d_Mo_partAll_95 ?_
        refine topi_eq (nI_add (7 * W1.length) 2) ?_
        refine mo_ialdN hC hK hM 26 ((7 * W1.length) + 2) (by decide) rfl (n := 700) rfl (by decide) (i := nI ((7 * W1.length) + 2)) (rfl) (by omega) (v := iI (e1 2)) (hw 2 (by decide)) d_Mo_partAll_96 ?_
        refine lv_istore (lv' := [(5, .int (iI (e1 2))), (4, .int (iI (e1 1))), (3, .int (iI (e1 0))), (2, .int (nI (7 * W1.length))), (0, .ref (ad 46)), (1, .int (nI b))]) hx hb d_Mo_partAll_97 hl (by decide) rfl (fun ls hl => ?_)
        refine lv_aload_n hx hb d_Mo_partAll_99 rfl (lv_at hl 4 rfl) ?_
        refine mo_getr hC hK hM 26 wf_Mo_56 rfl (by decide) (by decide) d_Mo_partAll_100 ?_
        refine lv_iload_n hx hb d_Mo_partAll_103 rfl (lv_at hl 3 rfl) ?_
        refine lv_iconst (v := 3) hx hb d_Mo_partAll_104 (by decide) ?_
        refine lv_iadd hx hb d_Mo_partAll_105 ?_
        refine topi_eq (nI_add (7 * W1.length) 3) ?_
        refine mo_ialdN hC hK hM 26 ((7 * W1.length) + 3) (by decide) rfl (n := 700) rfl (by decide) (i := nI ((7 * W1.length) + 3)) (rfl) (by omega) (v := iI (e1 3)) (hw 3 (by decide)) d_Mo_partAll_106 ?_
        refine lv_istore (lv' := [(6, .int (iI (e1 3))), (5, .int (iI (e1 2))), (4, .int (iI (e1 1))), (3, .int (iI (e1 0))), (2, .int (nI (7 * W1.length))), (0, .ref (ad 46)), (1, .int (nI b))]) hx hb d_Mo_partAll_107 hl (by decide) rfl (fun ls hl => ?_)
        refine lv_aload_n hx hb d_Mo_partAll_109 rfl (lv_at hl 5 rfl) ?_
        refine mo_getr hC hK hM 26 wf_Mo_56 rfl (by decide) (by decide) d_Mo_partAll_110 ?_
        refine lv_iload_n hx hb d_Mo_partAll_113 rfl (lv_at hl 4 rfl) ?_
        refine lv_iconst (v := 4) hx hb d_Mo_partAll_114 (by decide) ?_
        refine lv_iadd hx hb d_Mo_partAll_115 ?_
        refine topi_eq (nI_add (7 * W1.length) 4) ?_
        refine mo_ialdN hC hK hM 26 ((7 * W1.length) + 4) (by decide) rfl (n := 700) rfl (by decide) (i := nI ((7 * W1.length) + 4)) (rfl) (by omega) (v := iI (e1 4)) (hw 4 (by decide)) d_Mo_partAll_116 ?_
        refine lv_istore (lv' := [(7, .int (iI (e1 4))), (6, .int (iI (e1 3))), (5, .int (iI (e1 2))), (4, .int (iI (e1 1))), (3, .int (iI (e1 0))), (2, .int (nI (7 * W1.length))), (0, .ref (ad 46)), (1, .int (nI b))]) hx hb d_Mo_partAll_117 hl (by decide) rfl (fun ls hl => ?_)
        refine lv_aload_n hx hb d_Mo_partAll_119 rfl (lv_at hl 6 rfl) ?_
        refine mo_getr hC hK hM 26 wf_Mo_56 rfl (by decide) (by decide) d_Mo_partAll_120 ?_
        refine lv_iload_n hx hb d_Mo_partAll_123 rfl (lv_at hl 5 rfl) ?_
        refine lv_iconst (v := 5) hx hb d_Mo_partAll_124 (by decide) ?_
        refine lv_iadd hx hb d_Mo_partAll_125 ?_
        refine topi_eq (nI_add (7 * W1.length) 5) ?_
        refine mo_ialdN hC hK hM 26 ((7 * W1.length) + 5) (by decide) rfl (n := 700) rfl (by decide) (i := nI ((7 * W1.length) + 5)) (rfl) (by omega) (v := iI (e1 5)) (hw 5 (by decide)) d_Mo_partAll_126 ?_
        refine lv_istore (lv' := [(8, .int (iI (e1 5))), (7, .int (iI (e1 4))), (6, .int (iI (e1 3))), (5, .int (iI (e1 2))), (4, .int (iI (e1 1))), (3, .int (iI (e1 0))), (2, .int (nI (7 * W1.length))), (0, .ref (ad 46)), (1, .int (nI b))]) hx hb d_Mo_partAll_127 hl (by decide) rfl (fun ls hl => ?_)
        refine lv_aload_n hx hb d_Mo_partAll_129 rfl (lv_at hl 7 rfl) ?_
        refine mo_getr hC hK hM 26 wf_Mo_56 rfl (by decide) (by decide) d_Mo_partAll_130 ?_
        refine lv_iload_n hx hb d_Mo_partAll_133 rfl (lv_at hl 6 rfl) ?_
        refine lv_bipush (v := 6) hx hb d_Mo_partAll_134 (by decide) ?_
        refine lv_iadd hx hb d_Mo_partAll_136 ?_
        refine topi_eq (nI_add (7 * W1.length) 6) ?_
        refine mo_ialdN hC hK hM 26 ((7 * W1.length) + 6) (by decide) rfl (n := 700) rfl (by decide) (i := nI ((7 * W1.length) + 6)) (rfl) (by omega) (v := iI (e1 6)) (hw 6 (by decide)) d_Mo_partAll_137 ?_
        refine lv_istore (lv' := [(9, .int (iI (e1 6))), (8, .int (iI (e1 5))), (7, .int (iI (e1 4))), (6, .int (iI (e1 3))), (5, .int (iI (e1 2))), (4, .int (iI (e1 1))), (3, .int (iI (e1 0))), (2, .int (nI (7 * W1.length))), (0, .ref (ad 46)), (1, .int (nI b))]) hx hb d_Mo_partAll_138 hl (by decide) rfl (fun ls hl => ?_)
        refine lv_aload_n hx hb d_Mo_partAll_140 rfl (lv_at hl 8 rfl) ?_
        refine lv_iload_n hx hb d_Mo_partAll_141 rfl (lv_at hl 9 rfl) ?_
        refine lv_iload_n hx hb d_Mo_partAll_142 rfl (lv_at hl 6 rfl) ?_
        refine lv_i2l (v := iL (e1 0)) hx hb d_Mo_partAll_143 (iI_l (z := e1 0) (by omega) (by omega)) ?_
        refine lv_iload hx hb d_Mo_partAll_144 (lv_at hl 5 rfl) ?_
        refine lv_i2l (v := iL (e1 1)) hx hb d_Mo_partAll_146 (iI_l (z := e1 1) (by omega) (by omega)) ?_
        refine lv_iload hx hb d_Mo_partAll_147 (lv_at hl 4 rfl) ?_
        refine lv_i2l (v := iL (e1 2)) hx hb d_Mo_partAll_149 (iI_l (z := e1 2) (by omega) (by omega)) ?_
        refine lv_iload hx hb d_Mo_partAll_150 (lv_at hl 3 rfl) ?_
        refine lv_i2l (v := iL (e1 3)) hx hb d_Mo_partAll_152 (iI_l (z := e1 3) (by omega) (by omega)) ?_
        refine lv_iload hx hb d_Mo_partAll_153 (lv_at hl 2 rfl) ?_
        refine lv_i2l (v := iL (e1 4)) hx hb d_Mo_partAll_155 (iI_l (z := e1 4) (by omega) (by omega)) ?_
        refine lv_iload hx hb d_Mo_partAll_156 (lv_at hl 1 rfl) ?_
        refine lv_i2l (v := iL (e1 5)) hx hb d_Mo_partAll_158 (iI_l (z := e1 5) (by omega) (by omega)) ?_
        refine mo_callv (np := 7) hC hK hM (c_Mo_spans l D cT ad (upd (upd (upd (upd (upd (upd I 28 (iI (A 0))) 29 (iI (A 1))) 30 (iI (A 2))) 31 (iI (A 3))) 32 (iI (A 4))) 27 (nI W1.length)) J2 (va_up a 26 f26) g2 b (t).1 (t).2.1 (t).2.2.1 (t).2.2.2 (bx6 (e1 0) (e1 3) (e1 1) (e1 4) (e1 2) (e1 5)) (by omega) (BDT_of hT rfl rfl rfl rfl) (bx6_b (by omega))) rfl ⟨wl_Mo_213, wi_Mo_spans, ws_Mo_spans, wc_Mo_spans, wn_Mo⟩ ⟨by decide, by decide, by decide +kernel⟩ ⟨Nat.le_of_ble_eq_true rfl, Nat.le_of_ble_eq_true rfl⟩ hl.1 rfl (rest := []) rfl (Nat.le_of_ble_eq_true rfl) ⟨Nat.zero_le _, Nat.zero_le _⟩ d_Mo_partAll_159 (fun I3 J3 a3 g3 H locs hp3 hM => ?_)
        obtain ⟨hI_p3, hA_p3, hlo_p3, hhi_p3⟩ := hp3
        replace hI_p3 : I3 = upd (upd (upd (upd (upd (upd I 28 (iI (A 0))) 29 (iI (A 1))) 30 (iI (A 2))) 31 (iI (A 3))) 32 (iI (A 4))) 27 (nI W1.length) := hI_p3
        replace hA_p3 : a3 = va_up a 26 f26 := hA_p3
        replace hlo_p3 : J3 24 = iL (spT (t) (bx6 (e1 0) (e1 3) (e1 1) (e1 4) (e1 2) (e1 5))).1 := hlo_p3
        replace hhi_p3 : J3 25 = iL (spT (t) (bx6 (e1 0) (e1 3) (e1 1) (e1 4) (e1 2) (e1 5))).2 := hhi_p3
        rw [hI_p3, hA_p3] at hM
        have hv_p3 := sp_b (B := (bx6 (e1 0) (e1 3) (e1 1) (e1 4) (e1 2) (e1 5))) (BDT_of hT rfl rfl rfl rfl) (bx6_b (by omega))
        unfold vb at hv_p3
        refine lv_aload_n hx hb d_Mo_partAll_162 rfl (lv_at hl 8 rfl) ?_
        refine lv_dup hx hb d_Mo_partAll_163 rfl ?_
        refine mo_geti hC hK hM 32 wf_Mo_240 rfl rfl (by decide) (v := iI (A 4)) (rfl) d_Mo_partAll_164 ?_
        refine lv_iconst (v := 1) hx hb d_Mo_partAll_167 (by decide) ?_
        refine lv_iadd hx hb d_Mo_partAll_168 ?_
        refine topi_eq (iI_add (A 4) 1) ?_
        refine mo_puti hC hK hM 32 wf_Mo_240 rfl rfl (by decide) rfl (by decide +kernel) (x := iI ((A 4) + 1)) d_Mo_partAll_169 (fun H locs hM => ?_)
        rw [upd_swap (i := 27) (j := 32) (by decide), upd_upd] at hM
        have hL210 : ∀  (H : Heap) (locs : List Loc) (ls : Array Slot), (((spT t (bxe e1)).2 < 0 ∨ ¬ (spT t (bxe e1)).1 < 0 ∨ (e1 0 = e1 3 ∧ e1 1 = e1 4 ∧ e1 2 = e1 5))) → MO D cT ad (upd (upd (upd (upd (upd (upd I 28 (iI (A 0))) 29 (iI (A 1))) 30 (iI (A 2))) 31 (iI (A 3))) 32 (iI ((A 4) + 1))) 27 (nI W1.length)) J3 (va_up a 26 f26) g3 s.heap H locs → lv_has ls 17 [(0, .ref (ad 46)), (1, .int (nI b)), (3, .int (iI (e1 0))), (4, .int (iI (e1 1))), (5, .int (iI (e1 2))), (6, .int (iI (e1 3))), (7, .int (iI (e1 4))), (8, .int (iI (e1 5))), (9, .int (iI (e1 6)))] → W p l e (rmOf 4 123) s m args below meth c H locs 0 0 Q (F0 m 210 ls []) := by
          intro  H locs ls hlf hM hl
          refine lv_aload_n hx hb d_Mo_partAll_210 rfl (lv_at hl 0 rfl) ?_
          refine mo_getj hC hK hM 25 wf_Mo_183 rfl rfl (by decide) (v := iL ((spT (t) (bx6 (e1 0) (e1 3) (e1 1) (e1 4) (e1 2) (e1 5))).2)) (hhi_p3) d_Mo_partAll_211 ?_
          refine lv_lconst (v := 0) hx hb d_Mo_partAll_214 (by decide) ?_
          have hJ4 : ∀ (H : Heap) (locs : List Loc) (ls : Array Slot), MO D cT ad (upd (upd (upd (upd (upd (upd I 28 (iI (A 0))) 29 (iI (A 1))) 30 (iI (A 2))) 31 (iI (A 3))) 32 (iI ((A 4) + 1))) 27 (nI W1.length)) J3 (va_up a 26 f26) g3 s.heap H locs → lv_has ls 17 [(0, .ref (ad 46)), (1, .int (nI b)), (3, .int (iI (e1 0))), (4, .int (iI (e1 1))), (5, .int (iI (e1 2))), (6, .int (iI (e1 3))), (7, .int (iI (e1 4))), (8, .int (iI (e1 5))), (9, .int (iI (e1 6)))] → W p l e (rmOf 4 123) s m args below meth c H locs 0 0 Q (F0 m 224 ls [.int (bI (((spT (t) (bx6 (e1 0) (e1 3) (e1 1) (e1 4) (e1 2) (e1 5))).2) < 0))]) := ?_
          · skip
            refine zl_ge hx hb ((spT (t) (bx6 (e1 0) (e1 3) (e1 1) (e1 4) (e1 2) (e1 5))).2) 0 (by omega) (by omega) (by omega) (by omega) d_Mo_partAll_215 d_Mo_partAll_216 (tgt := 223) (by decide) (fun h5 => ?_) (fun h5 => ?_)
            · skip
              refine lv_iconst (v := 0) hx hb d_Mo_partAll_223 (by decide) ?_
              refine topi_eq (show (0 : Int32) = bI (((spT (t) (bx6 (e1 0) (e1 3) (e1 1) (e1 4) (e1 2) (e1 5))).2) < 0) by first | rfl | exact (bI_t (by assumption)).symm | exact (bI_f (by assumption)).symm | exact (bI_f (fun z => z (by assumption))).symm | (rw [if_neg h5]; done) | (rw [if_neg h5]; rfl) | (simp only [if_neg h5]; done) | (simp only [if_neg h5]; rfl)) ?_
              exact hJ4 _ _ _ (by first | exact hM | (simp only [if_neg h5]; exact hM)) (by first | exact lv_sub hl [0, 1, 2, 3, 4, 5, 6, 7, 8] rfl | (simp only [if_neg h5]; exact lv_sub hl [0, 1, 2, 3, 4, 5, 6, 7, 8] rfl))
            · skip
              refine lv_iconst (v := 1) hx hb d_Mo_partAll_219 (by decide) ?_
              refine lv_goto (tgt := 224) hx hb d_Mo_partAll_220 (by decide) ?_
              refine topi_eq (show (1 : Int32) = bI (((spT (t) (bx6 (e1 0) (e1 3) (e1 1) (e1 4) (e1 2) (e1 5))).2) < 0) by first | rfl | exact (bI_t (by assumption)).symm | exact (bI_f (by assumption)).symm | exact (bI_f (fun z => z (by assumption))).symm | (rw [if_pos h5]; done) | (rw [if_pos h5]; rfl) | (simp only [if_pos h5]; done) | (simp only [if_pos h5]; rfl)) ?_
              exact hJ4 _ _ _ (by first | exact hM | (simp only [if_pos h5]; exact hM)) (by first | exact lv_sub hl [0, 1, 2, 3, 4, 5, 6, 7, 8] rfl | (simp only [if_pos h5]; exact lv_sub hl [0, 1, 2, 3, 4, 5, 6, 7, 8] rfl))
          intro H locs ls hM hl
          refine lv_istore (lv' := [(10, .int (bI (((spT (t) (bx6 (e1 0) (e1 3) (e1 1) (e1 4) (e1 2) (e1 5))).2) < 0))), (0, .ref (ad 46)), (1, .int (nI b)), (3, .int (iI (e1 0))), (4, .int (iI (e1 1))), (5, .int (iI (e1 2))), (6, .int (iI (e1 3))), (7, .int (iI (e1 4))), (8, .int (iI (e1 5))), (9, .int (iI (e1 6)))]) hx hb d_Mo_partAll_224 hl (by decide) rfl (fun ls hl => ?_)
          refine lv_aload_n hx hb d_Mo_partAll_226 rfl (lv_at hl 1 rfl) ?_
          refine lv_dup hx hb d_Mo_partAll_227 rfl ?_
          refine mo_geti hC hK hM 28 wf_Mo_228 rfl rfl (by decide) (v := iI (A 0)) (rfl) d_Mo_partAll_228 ?_
          refine lv_iconst (v := 1) hx hb d_Mo_partAll_231 (by decide) ?_
          refine lv_iadd hx hb d_Mo_partAll_232 ?_
          refine topi_eq (iI_add (A 0) 1) ?_
          refine mo_puti hC hK hM 28 wf_Mo_228 rfl rfl (by decide) rfl (by decide +kernel) (x := iI ((A 0) + 1)) d_Mo_partAll_233 (fun H locs hM => ?_)
          rw [upd_swap (i := 27) (j := 28) (by decide), upd_swap (i := 32) (j := 28) (by decide), upd_swap (i := 31) (j := 28) (by decide), upd_swap (i := 30) (j := 28) (by decide), upd_swap (i := 29) (j := 28) (by decide), upd_upd] at hM
          refine lv_aload_n hx hb d_Mo_partAll_236 rfl (lv_at hl 1 rfl) ?_
          refine lv_dup hx hb d_Mo_partAll_237 rfl ?_
          refine mo_geti hC hK hM 29 wf_Mo_231 rfl rfl (by decide) (v := iI (A 1)) (rfl) d_Mo_partAll_238 ?_
          refine lv_iload hx hb d_Mo_partAll_241 (lv_at hl 0 rfl) ?_
          have hJ6 : ∀ (H : Heap) (locs : List Loc) (ls : Array Slot), MO D cT ad (upd (upd (upd (upd (upd (upd I 28 (iI ((A 0) + 1))) 29 (iI (A 1))) 30 (iI (A 2))) 31 (iI (A 3))) 32 (iI ((A 4) + 1))) 27 (nI W1.length)) J3 (va_up a 26 f26) g3 s.heap H locs → lv_has ls 17 [(0, .ref (ad 46)), (1, .int (nI b)), (3, .int (iI (e1 0))), (4, .int (iI (e1 1))), (5, .int (iI (e1 2))), (6, .int (iI (e1 3))), (7, .int (iI (e1 4))), (8, .int (iI (e1 5))), (9, .int (iI (e1 6))), (10, .int (bI (((spT (t) (bx6 (e1 0) (e1 3) (e1 1) (e1 4) (e1 2) (e1 5))).2) < 0)))] → W p l e (rmOf 4 123) s m args below meth c H locs 0 0 Q (F0 m 251 ls [.int (nI (if ((spT (t) (bx6 (e1 0) (e1 3) (e1 1) (e1 4) (e1 2) (e1 5))).2) < 0 then 1 else 0)), .int (iI (A 1)), .ref (ad 46)]) := ?_
          · skip
            refine bz_eq (tgt := 250) hx hb d_Mo_partAll_243 (by decide) (fun h7 => ?_) (fun h7 => ?_)
            · skip
              refine lv_iconst (v := 0) hx hb d_Mo_partAll_250 (by decide) ?_
              refine topi_eq (show (0 : Int32) = nI (if ((spT (t) (bx6 (e1 0) (e1 3) (e1 1) (e1 4) (e1 2) (e1 5))).2) < 0 then 1 else 0) by first | rfl | exact (bI_t (by assumption)).symm | exact (bI_f (by assumption)).symm | exact (bI_f (fun z => z (by assumption))).symm | (rw [if_neg h7]; done) | (rw [if_neg h7]; rfl) | (simp only [if_neg h7]; done) | (simp only [if_neg h7]; rfl)) ?_
              exact hJ6 _ _ _ (by first | exact hM | (simp only [if_neg h7]; exact hM)) (by first | exact lv_sub hl [1, 2, 3, 4, 5, 6, 7, 8, 9, 0] rfl | (simp only [if_neg h7]; exact lv_sub hl [1, 2, 3, 4, 5, 6, 7, 8, 9, 0] rfl))
            · skip
              refine lv_iconst (v := 1) hx hb d_Mo_partAll_246 (by decide) ?_
              refine lv_goto (tgt := 251) hx hb d_Mo_partAll_247 (by decide) ?_
              refine topi_eq (show (1 : Int32) = nI (if ((spT (t) (bx6 (e1 0) (e1 3) (e1 1) (e1 4) (e1 2) (e1 5))).2) < 0 then 1 else 0) by first | rfl | exact (bI_t (by assumption)).symm | exact (bI_f (by assumption)).symm | exact (bI_f (fun z => z (by assumption))).symm | (rw [if_pos h7]; done) | (rw [if_pos h7]; rfl) | (simp only [if_pos h7]; done) | (simp only [if_pos h7]; rfl)) ?_
              exact hJ6 _ _ _ (by first | exact hM | (simp only [if_pos h7]; exact hM)) (by first | exact lv_sub hl [1, 2, 3, 4, 5, 6, 7, 8, 9, 0] rfl | (simp only [if_pos h7]; exact lv_sub hl [1, 2, 3, 4, 5, 6, 7, 8, 9, 0] rfl))
          intro H locs ls hM hl
          refine lv_iadd hx hb d_Mo_partAll_251 ?_
          refine topi_eq (iI_add (A 1) ((if ((spT (t) (bx6 (e1 0) (e1 3) (e1 1) (e1 4) (e1 2) (e1 5))).2) < 0 then 1 else 0 : Nat) : Int)) ?_
          refine mo_puti hC hK hM 29 wf_Mo_231 rfl rfl (by decide) rfl (by decide +kernel) (x := iI ((A 1) + ((if ((spT (t) (bx6 (e1 0) (e1 3) (e1 1) (e1 4) (e1 2) (e1 5))).2) < 0 then 1 else 0 : Nat) : Int))) d_Mo_partAll_252 (fun H locs hM => ?_)
          rw [upd_swap (i := 27) (j := 29) (by decide), upd_swap (i := 32) (j := 29) (by decide), upd_swap (i := 31) (j := 29) (by decide), upd_swap (i := 30) (j := 29) (by decide), upd_upd] at hM
          refine lv_aload_n hx hb d_Mo_partAll_255 rfl (lv_at hl 0 rfl) ?_
          refine lv_dup hx hb d_Mo_partAll_256 rfl ?_
          refine mo_geti hC hK hM 30 wf_Mo_234 rfl rfl (by decide) (v := iI (A 2)) (rfl) d_Mo_partAll_257 ?_
          refine lv_iload hx hb d_Mo_partAll_260 (lv_at hl 9 rfl) ?_
          have hJ8 : ∀ (H : Heap) (locs : List Loc) (ls : Array Slot), MO D cT ad (upd (upd (upd (upd (upd (upd I 28 (iI ((A 0) + 1))) 29 (iI ((A 1) + ((if ((spT (t) (bx6 (e1 0) (e1 3) (e1 1) (e1 4) (e1 2) (e1 5))).2) < 0 then 1 else 0 : Nat) : Int)))) 30 (iI (A 2))) 31 (iI (A 3))) 32 (iI ((A 4) + 1))) 27 (nI W1.length)) J3 (va_up a 26 f26) g3 s.heap H locs → lv_has ls 17 [(0, .ref (ad 46)), (1, .int (nI b)), (3, .int (iI (e1 0))), (4, .int (iI (e1 1))), (5, .int (iI (e1 2))), (6, .int (iI (e1 3))), (7, .int (iI (e1 4))), (8, .int (iI (e1 5))), (9, .int (iI (e1 6))), (10, .int (bI (((spT (t) (bx6 (e1 0) (e1 3) (e1 1) (e1 4) (e1 2) (e1 5))).2) < 0)))] → W p l e (rmOf 4 123) s m args below meth c H locs 0 0 Q (F0 m 291 ls [.int (iI (if ((spT (t) (bx6 (e1 0) (e1 3) (e1 1) (e1 4) (e1 2) (e1 5))).2) < 0 then ((((e1 3) - (e1 0)) + 1) * (((e1 4) - (e1 1)) + 1)) * (((e1 5) - (e1 2)) + 1) else 0)), .int (iI (A 2)), .ref (ad 46)]) := ?_
          · skip
            refine bz_eq (tgt := 290) hx hb d_Mo_partAll_262 (by decide) (fun h9 => ?_) (fun h9 => ?_)
            · skip
              refine lv_iconst (v := 0) hx hb d_Mo_partAll_290 (by decide) ?_
              refine topi_eq (show (0 : Int32) = iI (if ((spT (t) (bx6 (e1 0) (e1 3) (e1 1) (e1 4) (e1 2) (e1 5))).2) < 0 then ((((e1 3) - (e1 0)) + 1) * (((e1 4) - (e1 1)) + 1)) * (((e1 5) - (e1 2)) + 1) else 0) by first | rfl | exact (bI_t (by assumption)).symm | exact (bI_f (by assumption)).symm | exact (bI_f (fun z => z (by assumption))).symm | (rw [if_neg h9]; done) | (rw [if_neg h9]; rfl) | (simp only [if_neg h9]; done) | (simp only [if_neg h9]; rfl)) ?_
              exact hJ8 _ _ _ (by first | exact hM | (simp only [if_neg h9]; exact hM)) (by first | exact lv_sub hl [0, 1, 2, 3, 4, 5, 6, 7, 8, 9] rfl | (simp only [if_neg h9]; exact lv_sub hl [0, 1, 2, 3, 4, 5, 6, 7, 8, 9] rfl))
            · skip
              refine lv_iload hx hb d_Mo_partAll_265 (lv_at hl 5 rfl) ?_
              refine lv_iload_n hx hb d_Mo_partAll_267 rfl (lv_at hl 2 rfl) ?_
              refine lv_isub hx hb d_Mo_partAll_268 ?_
              refine topi_eq (iI_sub (e1 3) (e1 0)) ?_
              refine lv_iconst (v := 1) hx hb d_Mo_partAll_269 (by decide) ?_
              refine lv_iadd hx hb d_Mo_partAll_270 ?_
              refine topi_eq (iI_add ((e1 3) - (e1 0)) 1) ?_
              refine lv_iload hx hb d_Mo_partAll_271 (lv_at hl 6 rfl) ?_
              refine lv_iload hx hb d_Mo_partAll_273 (lv_at hl 3 rfl) ?_
              refine lv_isub hx hb d_Mo_partAll_275 ?_
              refine topi_eq (iI_sub (e1 4) (e1 1)) ?_
              refine lv_iconst (v := 1) hx hb d_Mo_partAll_276 (by decide) ?_
              refine lv_iadd hx hb d_Mo_partAll_277 ?_
              refine topi_eq (iI_add ((e1 4) - (e1 1)) 1) ?_
              refine lv_imul hx hb d_Mo_partAll_278 ?_
              refine topi_eq (iI_mul (((e1 3) - (e1 0)) + 1) (((e1 4) - (e1 1)) + 1)) ?_
              refine lv_iload hx hb d_Mo_partAll_279 (lv_at hl 7 rfl) ?_
              refine lv_iload hx hb d_Mo_partAll_281 (lv_at hl 4 rfl) ?_
              refine lv_isub hx hb d_Mo_partAll_283 ?_
              refine topi_eq (iI_sub (e1 5) (e1 2)) ?_
              refine lv_iconst (v := 1) hx hb d_Mo_partAll_284 (by decide) ?_
              refine lv_iadd hx hb d_Mo_partAll_285 ?_
              refine topi_eq (iI_add ((e1 5) - (e1 2)) 1) ?_
              refine lv_imul hx hb d_Mo_partAll_286 ?_
              refine topi_eq (iI_mul ((((e1 3) - (e1 0)) + 1) * (((e1 4) - (e1 1)) + 1)) (((e1 5) - (e1 2)) + 1)) ?_
              refine lv_goto (tgt := 291) hx hb d_Mo_partAll_287 (by decide) ?_
              refine topi_eq (show (iI (((((e1 3) - (e1 0)) + 1) * (((e1 4) - (e1 1)) + 1)) * (((e1 5) - (e1 2)) + 1)) : Int32) = iI (if ((spT (t) (bx6 (e1 0) (e1 3) (e1 1) (e1 4) (e1 2) (e1 5))).2) < 0 then ((((e1 3) - (e1 0)) + 1) * (((e1 4) - (e1 1)) + 1)) * (((e1 5) - (e1 2)) + 1) else 0) by first | rfl | exact (bI_t (by assumption)).symm | exact (bI_f (by assumption)).symm | exact (bI_f (fun z => z (by assumption))).symm | (rw [if_pos h9]; done) | (rw [if_pos h9]; rfl) | (simp only [if_pos h9]; done) | (simp only [if_pos h9]; rfl)) ?_
              exact hJ8 _ _ _ (by first | exact hM | (simp only [if_pos h9]; exact hM)) (by first | exact lv_sub hl [0, 1, 2, 3, 4, 5, 6, 7, 8, 9] rfl | (simp only [if_pos h9]; exact lv_sub hl [0, 1, 2, 3, 4, 5, 6, 7, 8, 9] rfl))
          intro H locs ls hM hl
          refine lv_iadd hx hb d_Mo_partAll_291 ?_
          refine topi_eq (iI_add (A 2) (if ((spT (t) (bx6 (e1 0) (e1 3) (e1 1) (e1 4) (e1 2) (e1 5))).2) < 0 then ((((e1 3) - (e1 0)) + 1) * (((e1 4) - (e1 1)) + 1)) * (((e1 5) - (e1 2)) + 1) else 0)) ?_
          refine mo_puti hC hK hM 30 wf_Mo_234 rfl rfl (by decide) rfl (by decide +kernel) (x := iI ((A 2) + (if ((spT (t) (bx6 (e1 0) (e1 3) (e1 1) (e1 4) (e1 2) (e1 5))).2) < 0 then ((((e1 3) - (e1 0)) + 1) * (((e1 4) - (e1 1)) + 1)) * (((e1 5) - (e1 2)) + 1) else 0))) d_Mo_partAll_292 (fun H locs hM => ?_)
          rw [upd_swap (i := 27) (j := 30) (by decide), upd_swap (i := 32) (j := 30) (by decide), upd_swap (i := 31) (j := 30) (by decide), upd_upd] at hM
          refine lv_aload_n hx hb d_Mo_partAll_295 rfl (lv_at hl 0 rfl) ?_
          refine lv_iload hx hb d_Mo_partAll_296 (lv_at hl 8 rfl) ?_
          refine lv_aload_n hx hb d_Mo_partAll_298 rfl (lv_at hl 0 rfl) ?_
          refine mo_geti hC hK hM 31 wf_Mo_237 rfl rfl (by decide) (v := iI (A 3)) (rfl) d_Mo_partAll_299 ?_
          have hJ10 : ∀ (H : Heap) (locs : List Loc) (ls : Array Slot), MO D cT ad (upd (upd (upd (upd (upd (upd I 28 (iI ((A 0) + 1))) 29 (iI ((A 1) + ((if ((spT (t) (bx6 (e1 0) (e1 3) (e1 1) (e1 4) (e1 2) (e1 5))).2) < 0 then 1 else 0 : Nat) : Int)))) 30 (iI ((A 2) + (if ((spT (t) (bx6 (e1 0) (e1 3) (e1 1) (e1 4) (e1 2) (e1 5))).2) < 0 then ((((e1 3) - (e1 0)) + 1) * (((e1 4) - (e1 1)) + 1)) * (((e1 5) - (e1 2)) + 1) else 0)))) 31 (iI (A 3))) 32 (iI ((A 4) + 1))) 27 (nI W1.length)) J3 (va_up a 26 f26) g3 s.heap H locs → lv_has ls 17 [(0, .ref (ad 46)), (1, .int (nI b)), (3, .int (iI (e1 0))), (4, .int (iI (e1 1))), (5, .int (iI (e1 2))), (6, .int (iI (e1 3))), (7, .int (iI (e1 4))), (8, .int (iI (e1 5))), (9, .int (iI (e1 6))), (10, .int (bI (((spT (t) (bx6 (e1 0) (e1 3) (e1 1) (e1 4) (e1 2) (e1 5))).2) < 0)))] → W p l e (rmOf 4 123) s m args below meth c H locs 0 0 Q (F0 m 314 ls [.int (iI (if (A 3) < (e1 6) then e1 6 else A 3)), .ref (ad 46)]) := ?_
          · skip
            refine zc_le hx hb (e1 6) (A 3) (by omega) (by omega) (by omega) (by omega) d_Mo_partAll_302 (tgt := 310) (by decide) (fun h11 => ?_) (fun h11 => ?_)
            · skip
              refine lv_aload_n hx hb d_Mo_partAll_310 rfl (lv_at hl 0 rfl) ?_
              refine mo_geti hC hK hM 31 wf_Mo_237 rfl rfl (by decide) (v := iI (A 3)) (rfl) d_Mo_partAll_311 ?_
              refine topi_eq (show (iI (A 3) : Int32) = iI (if (A 3) < (e1 6) then e1 6 else A 3) by first | rfl | exact (bI_t (by assumption)).symm | exact (bI_f (by assumption)).symm | exact (bI_f (fun z => z (by assumption))).symm | (rw [if_neg h11]; done) | (rw [if_neg h11]; rfl) | (simp only [if_neg h11]; done) | (simp only [if_neg h11]; rfl)) ?_
              exact hJ10 _ _ _ (by first | exact hM | (simp only [if_neg h11]; exact hM)) (by first | exact lv_sub hl [0, 1, 2, 3, 4, 5, 6, 7, 8, 9] rfl | (simp only [if_neg h11]; exact lv_sub hl [0, 1, 2, 3, 4, 5, 6, 7, 8, 9] rfl))
            · skip
              refine lv_iload hx hb d_Mo_partAll_305 (lv_at hl 8 rfl) ?_
              refine lv_goto (tgt := 314) hx hb d_Mo_partAll_307 (by decide) ?_
              refine topi_eq (show (iI (e1 6) : Int32) = iI (if (A 3) < (e1 6) then e1 6 else A 3) by first | rfl | exact (bI_t (by assumption)).symm | exact (bI_f (by assumption)).symm | exact (bI_f (fun z => z (by assumption))).symm | (rw [if_pos h11]; done) | (rw [if_pos h11]; rfl) | (simp only [if_pos h11]; done) | (simp only [if_pos h11]; rfl)) ?_
              exact hJ10 _ _ _ (by first | exact hM | (simp only [if_pos h11]; exact hM)) (by first | exact lv_sub hl [0, 1, 2, 3, 4, 5, 6, 7, 8, 9] rfl | (simp only [if_pos h11]; exact lv_sub hl [0, 1, 2, 3, 4, 5, 6, 7, 8, 9] rfl))
          intro H locs ls hM hl
          refine mo_puti hC hK hM 31 wf_Mo_237 rfl rfl (by decide) rfl (by decide +kernel) (x := iI (if (A 3) < (e1 6) then e1 6 else A 3)) d_Mo_partAll_314 (fun H locs hM => ?_)
          rw [upd_swap (i := 27) (j := 31) (by decide), upd_swap (i := 32) (j := 31) (by decide), upd_upd] at hM
          refine lv_goto (tgt := 535) hx hb d_Mo_partAll_317 (by decide) ?_
          refine lv_goto (tgt := 47) hx hb d_Mo_partAll_535 (by decide) ?_
          obtain ⟨hq1, hq2⟩ := pl_leaf hv hlf htot
          exact ih47 (cb A (lfR t e1)) W1 _ _ _ _ _ _ (by omega) (hWR1) (hok1) (hq1) (by show 0 ≤ (if A 3 < e1 6 then e1 6 else A 3) ∧ (if A 3 < e1 6 then e1 6 else A 3) ≤ 4; split <;> omega) (by rw [show cb A (lfR t e1) 0 = (A 0) + 1 from rfl, show cb A (lfR t e1) 1 = (A 1) + ((if ((spT (t) (bx6 (e1 0) (e1 3) (e1 1) (e1 4) (e1 2) (e1 5))).2) < 0 then 1 else 0 : Nat) : Int) from lf_1 A t e1, show cb A (lfR t e1) 2 = (A 2) + (if ((spT (t) (bx6 (e1 0) (e1 3) (e1 1) (e1 4) (e1 2) (e1 5))).2) < 0 then ((((e1 3) - (e1 0)) + 1) * (((e1 4) - (e1 1)) + 1)) * (((e1 5) - (e1 2)) + 1) else 0) from rfl, show cb A (lfR t e1) 3 = if (A 3) < (e1 6) then e1 6 else A 3 from rfl, show cb A (lfR t e1) 4 = (A 4) + 1 from rfl]; exact hM) (lv_sub hl [0, 1] rfl)
        have hL320 : ∀  (H : Heap) (locs : List Loc) (ls : Array Slot), (¬ ((spT t (bxe e1)).2 < 0 ∨ ¬ (spT t (bxe e1)).1 < 0 ∨ (e1 0 = e1 3 ∧ e1 1 = e1 4 ∧ e1 2 = e1 5))) → MO D cT ad (upd (upd (upd (upd (upd (upd I 28 (iI (A 0))) 29 (iI (A 1))) 30 (iI (A 2))) 31 (iI (A 3))) 32 (iI ((A 4) + 1))) 27 (nI W1.length)) J3 (va_up a 26 f26) g3 s.heap H locs → lv_has ls 17 [(0, .ref (ad 46)), (1, .int (nI b)), (3, .int (iI (e1 0))), (4, .int (iI (e1 1))), (5, .int (iI (e1 2))), (6, .int (iI (e1 3))), (7, .int (iI (e1 4))), (8, .int (iI (e1 5))), (9, .int (iI (e1 6)))] → W p l e (rmOf 4 123) s m args below meth c H locs 0 0 Q (F0 m 320 ls []) := by
          intro  H locs ls hnl hM hl
          have h63 := (pae_part hv hnl).2
          refine lv_iload_n hx hb d_Mo_partAll_320 rfl (lv_at hl 2 rfl) ?_
          refine lv_iload hx hb d_Mo_partAll_321 (lv_at hl 5 rfl) ?_
          refine lv_iload_n hx hb d_Mo_partAll_323 rfl (lv_at hl 2 rfl) ?_
          refine lv_isub hx hb d_Mo_partAll_324 ?_
          refine topi_eq (iI_sub (e1 3) (e1 0)) ?_
          refine lv_iconst (v := 2) hx hb d_Mo_partAll_325 (by decide) ?_
          refine idivZ hx hb ((e1 3) - (e1 0)) 2 (by omega) (by omega) (by decide) (by decide) d_Mo_partAll_326 ?_
          refine lv_iadd hx hb d_Mo_partAll_327 ?_
          refine topi_eq (iI_add (e1 0) (((e1 3) - (e1 0)) / 2)) ?_
          refine lv_istore (lv' := [(10, .int (iI ((e1 0) + (((e1 3) - (e1 0)) / 2)))), (0, .ref (ad 46)), (1, .int (nI b)), (3, .int (iI (e1 0))), (4, .int (iI (e1 1))), (5, .int (iI (e1 2))), (6, .int (iI (e1 3))), (7, .int (iI (e1 4))), (8, .int (iI (e1 5))), (9, .int (iI (e1 6)))]) hx hb d_Mo_partAll_328 hl (by decide) rfl (fun ls hl => ?_)
          refine lv_iload hx hb d_Mo_partAll_330 (lv_at hl 4 rfl) ?_
          refine lv_iload hx hb d_Mo_partAll_332 (lv_at hl 7 rfl) ?_
          refine lv_iload hx hb d_Mo_partAll_334 (lv_at hl 4 rfl) ?_
          refine lv_isub hx hb d_Mo_partAll_336 ?_
          refine topi_eq (iI_sub (e1 4) (e1 1)) ?_
          refine lv_iconst (v := 2) hx hb d_Mo_partAll_337 (by decide) ?_
          refine idivZ hx hb ((e1 4) - (e1 1)) 2 (by omega) (by omega) (by decide) (by decide) d_Mo_partAll_338 ?_
          refine lv_iadd hx hb d_Mo_partAll_339 ?_
          refine topi_eq (iI_add (e1 1) (((e1 4) - (e1 1)) / 2)) ?_
          refine lv_istore (lv' := [(11, .int (iI ((e1 1) + (((e1 4) - (e1 1)) / 2)))), (10, .int (iI ((e1 0) + (((e1 3) - (e1 0)) / 2)))), (0, .ref (ad 46)), (1, .int (nI b)), (3, .int (iI (e1 0))), (4, .int (iI (e1 1))), (5, .int (iI (e1 2))), (6, .int (iI (e1 3))), (7, .int (iI (e1 4))), (8, .int (iI (e1 5))), (9, .int (iI (e1 6)))]) hx hb d_Mo_partAll_340 hl (by decide) rfl (fun ls hl => ?_)
          refine lv_iload hx hb d_Mo_partAll_342 (lv_at hl 6 rfl) ?_
          refine lv_iload hx hb d_Mo_partAll_344 (lv_at hl 9 rfl) ?_
          refine lv_iload hx hb d_Mo_partAll_346 (lv_at hl 6 rfl) ?_
          refine lv_isub hx hb d_Mo_partAll_348 ?_
          refine topi_eq (iI_sub (e1 5) (e1 2)) ?_
          refine lv_iconst (v := 2) hx hb d_Mo_partAll_349 (by decide) ?_
          refine idivZ hx hb ((e1 5) - (e1 2)) 2 (by omega) (by omega) (by decide) (by decide) d_Mo_partAll_350 ?_
          refine lv_iadd hx hb d_Mo_partAll_351 ?_
          refine topi_eq (iI_add (e1 2) (((e1 5) - (e1 2)) / 2)) ?_
          refine lv_istore (lv' := [(12, .int (iI ((e1 2) + (((e1 5) - (e1 2)) / 2)))), (11, .int (iI ((e1 1) + (((e1 4) - (e1 1)) / 2)))), (10, .int (iI ((e1 0) + (((e1 3) - (e1 0)) / 2)))), (0, .ref (ad 46)), (1, .int (nI b)), (3, .int (iI (e1 0))), (4, .int (iI (e1 1))), (5, .int (iI (e1 2))), (6, .int (iI (e1 3))), (7, .int (iI (e1 4))), (8, .int (iI (e1 5))), (9, .int (iI (e1 6)))]) hx hb d_Mo_partAll_352 hl (by decide) rfl (fun ls hl => ?_)
          refine lv_iconst (v := 0) hx hb d_Mo_partAll_354 (by decide) ?_
          refine lv_istore (lv' := [(13, .int 0), (12, .int (iI ((e1 2) + (((e1 5) - (e1 2)) / 2)))), (11, .int (iI ((e1 1) + (((e1 4) - (e1 1)) / 2)))), (10, .int (iI ((e1 0) + (((e1 3) - (e1 0)) / 2)))), (0, .ref (ad 46)), (1, .int (nI b)), (3, .int (iI (e1 0))), (4, .int (iI (e1 1))), (5, .int (iI (e1 2))), (6, .int (iI (e1 3))), (7, .int (iI (e1 4))), (8, .int (iI (e1 5))), (9, .int (iI (e1 6)))]) hx hb d_Mo_partAll_355 hl (by decide) rfl (fun ls hl => ?_)
          have hL357 : ∀ (nn : Nat) (p9 : Nat) (Wp : List (Nat → Int)) (f2 : Nat → Int32) (H : Heap) (locs : List Loc) (ls : Array Slot), 8 - p9 < nn → (p9 ≤ 8) → (WR f2 Wp) → (okS Wp) → (Wp.length ≤ W1.length + p9) → (tot t Wp = cb (csum (pae t) e1 p9) (tot t W1)) → MO D cT ad (upd (upd (upd (upd (upd (upd I 28 (iI (A 0))) 29 (iI (A 1))) 30 (iI (A 2))) 31 (iI (A 3))) 32 (iI ((A 4) + 1))) 27 (nI Wp.length)) J3 (va_up a 26 f2) g3 s.heap H locs → lv_has ls 17 [(0, .ref (ad 46)), (1, .int (nI b)), (3, .int (iI (e1 0))), (4, .int (iI (e1 1))), (5, .int (iI (e1 2))), (6, .int (iI (e1 3))), (7, .int (iI (e1 4))), (8, .int (iI (e1 5))), (9, .int (iI (e1 6))), (10, .int (iI ((e1 0) + (((e1 3) - (e1 0)) / 2)))), (11, .int (iI ((e1 1) + (((e1 4) - (e1 1)) / 2)))), (12, .int (iI ((e1 2) + (((e1 5) - (e1 2)) / 2)))), (13, .int (nI p9))] → W p l e (rmOf 4 123) s m args below meth c H locs 0 0 Q (F0 m 357 ls []) := by
            intro nn
            induction nn with
            | zero =>
              intro p9 Wp f2 H locs ls hmeas357 hp hWRp hokp hlp htp hM hl
              exact absurd hmeas357 (Nat.not_lt_zero _)
            | succ nn ih357 =>
              intro p9 Wp f2 H locs ls hmeas357 hp hWRp hokp hlp htp hM hl
              refine lv_iload hx hb d_Mo_partAll_357 (lv_at hl 12 rfl) ?_
              refine lv_bipush (v := 8) hx hb d_Mo_partAll_359 (by decide) ?_
              refine nc_ge hx hb p9 8 (by omega) (by omega) d_Mo_partAll_361 (tgt := 535) (by decide) (fun h12 => ?_) (fun h12 => ?_)
              · skip
                refine lv_goto (tgt := 47) hx hb d_Mo_partAll_535 (by decide) ?_
                obtain rfl : p9 = 8 := by omega
                obtain ⟨hq1, hq2⟩ := pl_part hA.1 hv hnl htp htot
                exact ih47 (inc4 A) Wp _ _ _ _ _ _ (by omega) (hWRp) (hokp) (hq1) (hA) (hM) (lv_sub hl [0, 1] rfl)
              · skip
                refine lv_iload hx hb d_Mo_partAll_364 (lv_at hl 12 rfl) ?_
                refine lv_iconst (v := 1) hx hb d_Mo_partAll_366 (by decide) ?_
                refine lv_iand hx hb d_Mo_partAll_367 ?_
                refine topi_eq (and_m p9 (by omega) 1 rfl) ?_
                refine lv_iconst (v := 1) hx hb d_Mo_partAll_368 (by decide) ?_
                have hJ13 : ∀ (H : Heap) (locs : List Loc) (ls : Array Slot), MO D cT ad (upd (upd (upd (upd (upd (upd I 28 (iI (A 0))) 29 (iI (A 1))) 30 (iI (A 2))) 31 (iI (A 3))) 32 (iI ((A 4) + 1))) 27 (nI Wp.length)) J3 (va_up a 26 f2) g3 s.heap H locs → lv_has ls 17 [(0, .ref (ad 46)), (1, .int (nI b)), (3, .int (iI (e1 0))), (4, .int (iI (e1 1))), (5, .int (iI (e1 2))), (6, .int (iI (e1 3))), (7, .int (iI (e1 4))), (8, .int (iI (e1 5))), (9, .int (iI (e1 6))), (10, .int (iI ((e1 0) + (((e1 3) - (e1 0)) / 2)))), (11, .int (iI ((e1 1) + (((e1 4) - (e1 1)) / 2)))), (12, .int (iI ((e1 2) + (((e1 5) - (e1 2)) / 2)))), (13, .int (nI p9))] → W p l e (rmOf 4 123) s m args below meth c H locs 0 0 Q (F0 m 377 ls [.int (bI ((p9 % 2) = 1))]) := ?_
                · skip
                  refine nc_ne hx hb (p9 % 2) 1 (by omega) (by omega) d_Mo_partAll_369 (tgt := 376) (by decide) (fun h14 => ?_) (fun h14 => ?_)
                  · skip
                    refine lv_iconst (v := 0) hx hb d_Mo_partAll_376 (by decide) ?_
                    refine topi_eq (show (0 : Int32) = bI ((p9 % 2) = 1) by first | rfl | exact (bI_t (by assumption)).symm | exact (bI_f (by assumption)).symm | exact (bI_f (fun z => z (by assumption))).symm | (rw [if_neg h14]; done) | (rw [if_neg h14]; rfl) | (simp only [if_neg h14]; done) | (simp only [if_neg h14]; rfl)) ?_
                    exact hJ13 _ _ _ (by first | exact hM | (simp only [if_neg h14]; exact hM)) (by first | exact lv_sub hl [0, 1, 2, 3, 4, 5, 6, 7, 8, 9, 10, 11, 12] rfl | (simp only [if_neg h14]; exact lv_sub hl [0, 1, 2, 3, 4, 5, 6, 7, 8, 9, 10, 11, 12] rfl))
                  · skip
                    refine lv_iconst (v := 1) hx hb d_Mo_partAll_372 (by decide) ?_
                    refine lv_goto (tgt := 377) hx hb d_Mo_partAll_373 (by decide) ?_
                    refine topi_eq (show (1 : Int32) = bI ((p9 % 2) = 1) by first | rfl | exact (bI_t (by assumption)).symm | exact (bI_f (by assumption)).symm | exact (bI_f (fun z => z (by assumption))).symm | (rw [if_pos h14]; done) | (rw [if_pos h14]; rfl) | (simp only [if_pos h14]; done) | (simp only [if_pos h14]; rfl)) ?_
                    exact hJ13 _ _ _ (by first | exact hM | (simp only [if_pos h14]; exact hM)) (by first | exact lv_sub hl [0, 1, 2, 3, 4, 5, 6, 7, 8, 9, 10, 11, 12] rfl | (simp only [if_pos h14]; exact lv_sub hl [0, 1, 2, 3, 4, 5, 6, 7, 8, 9, 10, 11, 12] rfl))
                intro H locs ls hM hl
                refine lv_istore (lv' := [(14, .int (bI ((p9 % 2) = 1))), (0, .ref (ad 46)), (1, .int (nI b)), (3, .int (iI (e1 0))), (4, .int (iI (e1 1))), (5, .int (iI (e1 2))), (6, .int (iI (e1 3))), (7, .int (iI (e1 4))), (8, .int (iI (e1 5))), (9, .int (iI (e1 6))), (10, .int (iI ((e1 0) + (((e1 3) - (e1 0)) / 2)))), (11, .int (iI ((e1 1) + (((e1 4) - (e1 1)) / 2)))), (12, .int (iI ((e1 2) + (((e1 5) - (e1 2)) / 2)))), (13, .int (nI p9))]) hx hb d_Mo_partAll_377 hl (by decide) rfl (fun ls hl => ?_)
                refine lv_iload hx hb d_Mo_partAll_379 (lv_at hl 13 rfl) ?_
                refine lv_iconst (v := 2) hx hb d_Mo_partAll_381 (by decide) ?_
                refine lv_iand hx hb d_Mo_partAll_382 ?_
                refine topi_eq (and_2 p9 (by omega)) ?_
                refine lv_iconst (v := 2) hx hb d_Mo_partAll_383 (by decide) ?_
                have hJ15 : ∀ (H : Heap) (locs : List Loc) (ls : Array Slot), MO D cT ad (upd (upd (upd (upd (upd (upd I 28 (iI (A 0))) 29 (iI (A 1))) 30 (iI (A 2))) 31 (iI (A 3))) 32 (iI ((A 4) + 1))) 27 (nI Wp.length)) J3 (va_up a 26 f2) g3 s.heap H locs → lv_has ls 17 [(0, .ref (ad 46)), (1, .int (nI b)), (3, .int (iI (e1 0))), (4, .int (iI (e1 1))), (5, .int (iI (e1 2))), (6, .int (iI (e1 3))), (7, .int (iI (e1 4))), (8, .int (iI (e1 5))), (9, .int (iI (e1 6))), (10, .int (iI ((e1 0) + (((e1 3) - (e1 0)) / 2)))), (11, .int (iI ((e1 1) + (((e1 4) - (e1 1)) / 2)))), (12, .int (iI ((e1 2) + (((e1 5) - (e1 2)) / 2)))), (13, .int (nI p9)), (14, .int (bI ((p9 % 2) = 1)))] → W p l e (rmOf 4 123) s m args below meth c H locs 0 0 Q (F0 m 392 ls [.int (bI ((2 * (p9 / 2 % 2)) = 2))]) := ?_
                · skip
                  refine nc_ne hx hb (2 * (p9 / 2 % 2)) 2 (by omega) (by omega) d_Mo_partAll_384 (tgt := 391) (by decide) (fun h16 => ?_) (fun h16 => ?_)
                  · skip
                    refine lv_iconst (v := 0) hx hb d_Mo_partAll_391 (by decide) ?_
                    refine topi_eq (show (0 : Int32) = bI ((2 * (p9 / 2 % 2)) = 2) by first | rfl | exact (bI_t (by assumption)).symm | exact (bI_f (by assumption)).symm | exact (bI_f (fun z => z (by assumption))).symm | (rw [if_neg h16]; done) | (rw [if_neg h16]; rfl) | (simp only [if_neg h16]; done) | (simp only [if_neg h16]; rfl)) ?_
                    exact hJ15 _ _ _ (by first | exact hM | (simp only [if_neg h16]; exact hM)) (by first | exact lv_sub hl [1, 2, 3, 4, 5, 6, 7, 8, 9, 10, 11, 12, 13, 0] rfl | (simp only [if_neg h16]; exact lv_sub hl [1, 2, 3, 4, 5, 6, 7, 8, 9, 10, 11, 12, 13, 0] rfl))
                  · skip
                    refine lv_iconst (v := 1) hx hb d_Mo_partAll_387 (by decide) ?_
                    refine lv_goto (tgt := 392) hx hb d_Mo_partAll_388 (by decide) ?_
                    refine topi_eq (show (1 : Int32) = bI ((2 * (p9 / 2 % 2)) = 2) by first | rfl | exact (bI_t (by assumption)).symm | exact (bI_f (by assumption)).symm | exact (bI_f (fun z => z (by assumption))).symm | (rw [if_pos h16]; done) | (rw [if_pos h16]; rfl) | (simp only [if_pos h16]; done) | (simp only [if_pos h16]; rfl)) ?_
                    exact hJ15 _ _ _ (by first | exact hM | (simp only [if_pos h16]; exact hM)) (by first | exact lv_sub hl [1, 2, 3, 4, 5, 6, 7, 8, 9, 10, 11, 12, 13, 0] rfl | (simp only [if_pos h16]; exact lv_sub hl [1, 2, 3, 4, 5, 6, 7, 8, 9, 10, 11, 12, 13, 0] rfl))
                intro H locs ls hM hl
                refine lv_istore (lv' := [(15, .int (bI ((2 * (p9 / 2 % 2)) = 2))), (0, .ref (ad 46)), (1, .int (nI b)), (3, .int (iI (e1 0))), (4, .int (iI (e1 1))), (5, .int (iI (e1 2))), (6, .int (iI (e1 3))), (7, .int (iI (e1 4))), (8, .int (iI (e1 5))), (9, .int (iI (e1 6))), (10, .int (iI ((e1 0) + (((e1 3) - (e1 0)) / 2)))), (11, .int (iI ((e1 1) + (((e1 4) - (e1 1)) / 2)))), (12, .int (iI ((e1 2) + (((e1 5) - (e1 2)) / 2)))), (13, .int (nI p9)), (14, .int (bI ((p9 % 2) = 1)))]) hx hb d_Mo_partAll_392 hl (by decide) rfl (fun ls hl => ?_)
                refine lv_iload hx hb d_Mo_partAll_394 (lv_at hl 13 rfl) ?_
                refine lv_iconst (v := 4) hx hb d_Mo_partAll_396 (by decide) ?_
                refine lv_iand hx hb d_Mo_partAll_397 ?_
                refine topi_eq (and_4 p9 (by omega)) ?_
                refine lv_iconst (v := 4) hx hb d_Mo_partAll_398 (by decide) ?_
                have hJ17 : ∀ (H : Heap) (locs : List Loc) (ls : Array Slot), MO D cT ad (upd (upd (upd (upd (upd (upd I 28 (iI (A 0))) 29 (iI (A 1))) 30 (iI (A 2))) 31 (iI (A 3))) 32 (iI ((A 4) + 1))) 27 (nI Wp.length)) J3 (va_up a 26 f2) g3 s.heap H locs → lv_has ls 17 [(0, .ref (ad 46)), (1, .int (nI b)), (3, .int (iI (e1 0))), (4, .int (iI (e1 1))), (5, .int (iI (e1 2))), (6, .int (iI (e1 3))), (7, .int (iI (e1 4))), (8, .int (iI (e1 5))), (9, .int (iI (e1 6))), (10, .int (iI ((e1 0) + (((e1 3) - (e1 0)) / 2)))), (11, .int (iI ((e1 1) + (((e1 4) - (e1 1)) / 2)))), (12, .int (iI ((e1 2) + (((e1 5) - (e1 2)) / 2)))), (13, .int (nI p9)), (14, .int (bI ((p9 % 2) = 1))), (15, .int (bI ((2 * (p9 / 2 % 2)) = 2)))] → W p l e (rmOf 4 123) s m args below meth c H locs 0 0 Q (F0 m 407 ls [.int (bI ((4 * (p9 / 4 % 2)) = 4))]) := ?_
                · skip
                  refine nc_ne hx hb (4 * (p9 / 4 % 2)) 4 (by omega) (by omega) d_Mo_partAll_399 (tgt := 406) (by decide) (fun h18 => ?_) (fun h18 => ?_)
                  · skip
                    refine lv_iconst (v := 0) hx hb d_Mo_partAll_406 (by decide) ?_
                    refine topi_eq (show (0 : Int32) = bI ((4 * (p9 / 4 % 2)) = 4) by first | rfl | exact (bI_t (by assumption)).symm | exact (bI_f (by assumption)).symm | exact (bI_f (fun z => z (by assumption))).symm | (rw [if_neg h18]; done) | (rw [if_neg h18]; rfl) | (simp only [if_neg h18]; done) | (simp only [if_neg h18]; rfl)) ?_
                    exact hJ17 _ _ _ (by first | exact hM | (simp only [if_neg h18]; exact hM)) (by first | exact lv_sub hl [1, 2, 3, 4, 5, 6, 7, 8, 9, 10, 11, 12, 13, 14, 0] rfl | (simp only [if_neg h18]; exact lv_sub hl [1, 2, 3, 4, 5, 6, 7, 8, 9, 10, 11, 12, 13, 14, 0] rfl))
                  · skip
                    refine lv_iconst (v := 1) hx hb d_Mo_partAll_402 (by decide) ?_
                    refine lv_goto (tgt := 407) hx hb d_Mo_partAll_403 (by decide) ?_
                    refine topi_eq (show (1 : Int32) = bI ((4 * (p9 / 4 % 2)) = 4) by first | rfl | exact (bI_t (by assumption)).symm | exact (bI_f (by assumption)).symm | exact (bI_f (fun z => z (by assumption))).symm | (rw [if_pos h18]; done) | (rw [if_pos h18]; rfl) | (simp only [if_pos h18]; done) | (simp only [if_pos h18]; rfl)) ?_
                    exact hJ17 _ _ _ (by first | exact hM | (simp only [if_pos h18]; exact hM)) (by first | exact lv_sub hl [1, 2, 3, 4, 5, 6, 7, 8, 9, 10, 11, 12, 13, 14, 0] rfl | (simp only [if_pos h18]; exact lv_sub hl [1, 2, 3, 4, 5, 6, 7, 8, 9, 10, 11, 12, 13, 14, 0] rfl))
                intro H locs ls hM hl
                refine lv_istore (lv' := [(16, .int (bI ((4 * (p9 / 4 % 2)) = 4))), (0, .ref (ad 46)), (1, .int (nI b)), (3, .int (iI (e1 0))), (4, .int (iI (e1 1))), (5, .int (iI (e1 2))), (6, .int (iI (e1 3))), (7, .int (iI (e1 4))), (8, .int (iI (e1 5))), (9, .int (iI (e1 6))), (10, .int (iI ((e1 0) + (((e1 3) - (e1 0)) / 2)))), (11, .int (iI ((e1 1) + (((e1 4) - (e1 1)) / 2)))), (12, .int (iI ((e1 2) + (((e1 5) - (e1 2)) / 2)))), (13, .int (nI p9)), (14, .int (bI ((p9 % 2) = 1))), (15, .int (bI ((2 * (p9 / 2 % 2)) = 2)))]) hx hb d_Mo_partAll_407 hl (by decide) rfl (fun ls hl => ?_)
                refine lv_iload hx hb d_Mo_partAll_409 (lv_at hl 14 rfl) ?_
                refine bz_eq (tgt := 420) hx hb d_Mo_partAll_411 (by decide) (fun h19 => ?_) (fun h19 => ?_)
                · skip
                  refine lv_iload hx hb d_Mo_partAll_420 (lv_at hl 15 rfl) ?_
                  refine bz_eq (tgt := 432) hx hb d_Mo_partAll_422 (by decide) (fun h20 => ?_) (fun h20 => ?_)
                  · skip
                    refine lv_iload hx hb d_Mo_partAll_432 (lv_at hl 0 rfl) ?_
                    refine bz_eq (tgt := 444) hx hb d_Mo_partAll_434 (by decide) (fun h21 => ?_) (fun h21 => ?_)
                    · skip
                      refine lv_aload_n hx hb d_Mo_partAll_444 rfl (lv_at hl 1 rfl) ?_
                      refine lv_iload hx hb d_Mo_partAll_445 (lv_at hl 14 rfl) ?_
                      have hJ22 : ∀ (H : Heap) (locs : List Loc) (ls : Array Slot), MO D cT ad (upd (upd (upd (upd (upd (upd I 28 (iI (A 0))) 29 (iI (A 1))) 30 (iI (A 2))) 31 (iI (A 3))) 32 (iI ((A 4) + 1))) 27 (nI Wp.length)) J3 (va_up a 26 f2) g3 s.heap H locs → lv_has ls 17 [(0, .ref (ad 46)), (1, .int (nI b)), (3, .int (iI (e1 0))), (4, .int (iI (e1 1))), (5, .int (iI (e1 2))), (6, .int (iI (e1 3))), (7, .int (iI (e1 4))), (8, .int (iI (e1 5))), (9, .int (iI (e1 6))), (10, .int (iI ((e1 0) + (((e1 3) - (e1 0)) / 2)))), (11, .int (iI ((e1 1) + (((e1 4) - (e1 1)) / 2)))), (12, .int (iI ((e1 2) + (((e1 5) - (e1 2)) / 2)))), (13, .int (nI p9)), (14, .int (bI ((p9 % 2) = 1))), (15, .int (bI ((2 * (p9 / 2 % 2)) = 2))), (16, .int (bI ((4 * (p9 / 4 % 2)) = 4)))] → W p l e (rmOf 4 123) s m args below meth c H locs 0 0 Q (F0 m 458 ls [.int (iI (if (p9 % 2) = 1 then ((e1 0) + (((e1 3) - (e1 0)) / 2)) + 1 else e1 0)), .ref (ad 46)]) := ?_
                      · skip
                        refine bz_eq (tgt := 457) hx hb d_Mo_partAll_447 (by decide) (fun h23 => ?_) (fun h23 => ?_)
                        · skip
                          refine lv_iload_n hx hb d_Mo_partAll_457 rfl (lv_at hl 3 rfl) ?_
                          refine topi_eq (show (iI (e1 0) : Int32) = iI (if (p9 % 2) = 1 then ((e1 0) + (((e1 3) - (e1 0)) / 2)) + 1 else e1 0) by first | rfl | exact (bI_t (by assumption)).symm | exact (bI_f (by assumption)).symm | exact (bI_f (fun z => z (by assumption))).symm | (rw [if_neg h23]; done) | (rw [if_neg h23]; rfl) | (simp only [if_neg h23]; done) | (simp only [if_neg h23]; rfl)) ?_
                          exact hJ22 _ _ _ (by first | exact hM | (simp only [if_neg h23]; exact hM)) (by first | exact lv_sub hl [1, 2, 3, 4, 5, 6, 7, 8, 9, 10, 11, 12, 13, 14, 15, 0] rfl | (simp only [if_neg h23]; exact lv_sub hl [1, 2, 3, 4, 5, 6, 7, 8, 9, 10, 11, 12, 13, 14, 15, 0] rfl))
                        · skip
                          refine lv_iload hx hb d_Mo_partAll_450 (lv_at hl 10 rfl) ?_
                          refine lv_iconst (v := 1) hx hb d_Mo_partAll_452 (by decide) ?_
                          refine lv_iadd hx hb d_Mo_partAll_453 ?_
                          refine topi_eq (iI_add ((e1 0) + (((e1 3) - (e1 0)) / 2)) 1) ?_
                          refine lv_goto (tgt := 458) hx hb d_Mo_partAll_454 (by decide) ?_
                          refine topi_eq (show (iI (((e1 0) + (((e1 3) - (e1 0)) / 2)) + 1) : Int32) = iI (if (p9 % 2) = 1 then ((e1 0) + (((e1 3) - (e1 0)) / 2)) + 1 else e1 0) by first | rfl | exact (bI_t (by assumption)).symm | exact (bI_f (by assumption)).symm | exact (bI_f (fun z => z (by assumption))).symm | (rw [if_pos h23]; done) | (rw [if_pos h23]; rfl) | (simp only [if_pos h23]; done) | (simp only [if_pos h23]; rfl)) ?_
                          exact hJ22 _ _ _ (by first | exact hM | (simp only [if_pos h23]; exact hM)) (by first | exact lv_sub hl [1, 2, 3, 4, 5, 6, 7, 8, 9, 10, 11, 12, 13, 14, 15, 0] rfl | (simp only [if_pos h23]; exact lv_sub hl [1, 2, 3, 4, 5, 6, 7, 8, 9, 10, 11, 12, 13, 14, 15, 0] rfl))
                      intro H locs ls hM hl
                      refine lv_iload hx hb d_Mo_partAll_458 (lv_at hl 14 rfl) ?_
                      have hJ24 : ∀ (H : Heap) (locs : List Loc) (ls : Array Slot), MO D cT ad (upd (upd (upd (upd (upd (upd I 28 (iI (A 0))) 29 (iI (A 1))) 30 (iI (A 2))) 31 (iI (A 3))) 32 (iI ((A 4) + 1))) 27 (nI Wp.length)) J3 (va_up a 26 f2) g3 s.heap H locs → lv_has ls 17 [(0, .ref (ad 46)), (1, .int (nI b)), (3, .int (iI (e1 0))), (4, .int (iI (e1 1))), (5, .int (iI (e1 2))), (6, .int (iI (e1 3))), (7, .int (iI (e1 4))), (8, .int (iI (e1 5))), (9, .int (iI (e1 6))), (10, .int (iI ((e1 0) + (((e1 3) - (e1 0)) / 2)))), (11, .int (iI ((e1 1) + (((e1 4) - (e1 1)) / 2)))), (12, .int (iI ((e1 2) + (((e1 5) - (e1 2)) / 2)))), (13, .int (nI p9)), (14, .int (bI ((p9 % 2) = 1))), (15, .int (bI ((2 * (p9 / 2 % 2)) = 2))), (16, .int (bI ((4 * (p9 / 4 % 2)) = 4)))] → W p l e (rmOf 4 123) s m args below meth c H locs 0 0 Q (F0 m 472 ls [.int (iI (if (2 * (p9 / 2 % 2)) = 2 then ((e1 1) + (((e1 4) - (e1 1)) / 2)) + 1 else e1 1)), .int (iI (if (p9 % 2) = 1 then ((e1 0) + (((e1 3) - (e1 0)) / 2)) + 1 else e1 0)), .ref (ad 46)]) := ?_
                      · skip
                        refine bz_eq (tgt := 470) hx hb d_Mo_partAll_460 (by decide) (fun h25 => ?_) (fun h25 => ?_)
                        · skip
                          refine lv_iload hx hb d_Mo_partAll_470 (lv_at hl 3 rfl) ?_
                          refine topi_eq (show (iI (e1 1) : Int32) = iI (if (2 * (p9 / 2 % 2)) = 2 then ((e1 1) + (((e1 4) - (e1 1)) / 2)) + 1 else e1 1) by first | rfl | exact (bI_t (by assumption)).symm | exact (bI_f (by assumption)).symm | exact (bI_f (fun z => z (by assumption))).symm | (rw [if_neg h25]; done) | (rw [if_neg h25]; rfl) | (simp only [if_neg h25]; done) | (simp only [if_neg h25]; rfl)) ?_
                          exact hJ24 _ _ _ (by first | exact hM | (simp only [if_neg h25]; exact hM)) (by first | exact lv_sub hl [0, 1, 2, 3, 4, 5, 6, 7, 8, 9, 10, 11, 12, 13, 14, 15] rfl | (simp only [if_neg h25]; exact lv_sub hl [0, 1, 2, 3, 4, 5, 6, 7, 8, 9, 10, 11, 12, 13, 14, 15] rfl))
                        · skip
                          refine lv_iload hx hb d_Mo_partAll_463 (lv_at hl 10 rfl) ?_
                          refine lv_iconst (v := 1) hx hb d_Mo_partAll_465 (by decide) ?_
                          refine lv_iadd hx hb d_Mo_partAll_466 ?_
                          refine topi_eq (iI_add ((e1 1) + (((e1 4) - (e1 1)) / 2)) 1) ?_
                          refine lv_goto (tgt := 472) hx hb d_Mo_partAll_467 (by decide) ?_
                          refine topi_eq (show (iI (((e1 1) + (((e1 4) - (e1 1)) / 2)) + 1) : Int32) = iI (if (2 * (p9 / 2 % 2)) = 2 then ((e1 1) + (((e1 4) - (e1 1)) / 2)) + 1 else e1 1) by first | rfl | exact (bI_t (by assumption)).symm | exact (bI_f (by assumption)).symm | exact (bI_f (fun z => z (by assumption))).symm | (rw [if_pos h25]; done) | (rw [if_pos h25]; rfl) | (simp only [if_pos h25]; done) | (simp only [if_pos h25]; rfl)) ?_
                          exact hJ24 _ _ _ (by first | exact hM | (simp only [if_pos h25]; exact hM)) (by first | exact lv_sub hl [0, 1, 2, 3, 4, 5, 6, 7, 8, 9, 10, 11, 12, 13, 14, 15] rfl | (simp only [if_pos h25]; exact lv_sub hl [0, 1, 2, 3, 4, 5, 6, 7, 8, 9, 10, 11, 12, 13, 14, 15] rfl))
                      intro H locs ls hM hl
                      refine lv_iload hx hb d_Mo_partAll_472 (lv_at hl 15 rfl) ?_
                      have hJ26 : ∀ (H : Heap) (locs : List Loc) (ls : Array Slot), MO D cT ad (upd (upd (upd (upd (upd (upd I 28 (iI (A 0))) 29 (iI (A 1))) 30 (iI (A 2))) 31 (iI (A 3))) 32 (iI ((A 4) + 1))) 27 (nI Wp.length)) J3 (va_up a 26 f2) g3 s.heap H locs → lv_has ls 17 [(0, .ref (ad 46)), (1, .int (nI b)), (3, .int (iI (e1 0))), (4, .int (iI (e1 1))), (5, .int (iI (e1 2))), (6, .int (iI (e1 3))), (7, .int (iI (e1 4))), (8, .int (iI (e1 5))), (9, .int (iI (e1 6))), (10, .int (iI ((e1 0) + (((e1 3) - (e1 0)) / 2)))), (11, .int (iI ((e1 1) + (((e1 4) - (e1 1)) / 2)))), (12, .int (iI ((e1 2) + (((e1 5) - (e1 2)) / 2)))), (13, .int (nI p9)), (14, .int (bI ((p9 % 2) = 1))), (15, .int (bI ((2 * (p9 / 2 % 2)) = 2))), (16, .int (bI ((4 * (p9 / 4 % 2)) = 4)))] → W p l e (rmOf 4 123) s m args below meth c H locs 0 0 Q (F0 m 486 ls [.int (iI (if (4 * (p9 / 4 % 2)) = 4 then ((e1 2) + (((e1 5) - (e1 2)) / 2)) + 1 else e1 2)), .int (iI (if (2 * (p9 / 2 % 2)) = 2 then ((e1 1) + (((e1 4) - (e1 1)) / 2)) + 1 else e1 1)), .int (iI (if (p9 % 2) = 1 then ((e1 0) + (((e1 3) - (e1 0)) / 2)) + 1 else e1 0)), .ref (ad 46)]) := ?_
                      · skip
                        refine bz_eq (tgt := 484) hx hb d_Mo_partAll_474 (by decide) (fun h27 => ?_) (fun h27 => ?_)
                        · skip
                          refine lv_iload hx hb d_Mo_partAll_484 (lv_at hl 4 rfl) ?_
                          refine topi_eq (show (iI (e1 2) : Int32) = iI (if (4 * (p9 / 4 % 2)) = 4 then ((e1 2) + (((e1 5) - (e1 2)) / 2)) + 1 else e1 2) by first | rfl | exact (bI_t (by assumption)).symm | exact (bI_f (by assumption)).symm | exact (bI_f (fun z => z (by assumption))).symm | (rw [if_neg h27]; done) | (rw [if_neg h27]; rfl) | (simp only [if_neg h27]; done) | (simp only [if_neg h27]; rfl)) ?_
                          exact hJ26 _ _ _ (by first | exact hM | (simp only [if_neg h27]; exact hM)) (by first | exact lv_sub hl [0, 1, 2, 3, 4, 5, 6, 7, 8, 9, 10, 11, 12, 13, 14, 15] rfl | (simp only [if_neg h27]; exact lv_sub hl [0, 1, 2, 3, 4, 5, 6, 7, 8, 9, 10, 11, 12, 13, 14, 15] rfl))
                        · skip
                          refine lv_iload hx hb d_Mo_partAll_477 (lv_at hl 11 rfl) ?_
                          refine lv_iconst (v := 1) hx hb d_Mo_partAll_479 (by decide) ?_
                          refine lv_iadd hx hb d_Mo_partAll_480 ?_
                          refine topi_eq (iI_add ((e1 2) + (((e1 5) - (e1 2)) / 2)) 1) ?_
                          refine lv_goto (tgt := 486) hx hb d_Mo_partAll_481 (by decide) ?_
                          refine topi_eq (show (iI (((e1 2) + (((e1 5) - (e1 2)) / 2)) + 1) : Int32) = iI (if (4 * (p9 / 4 % 2)) = 4 then ((e1 2) + (((e1 5) - (e1 2)) / 2)) + 1 else e1 2) by first | rfl | exact (bI_t (by assumption)).symm | exact (bI_f (by assumption)).symm | exact (bI_f (fun z => z (by assumption))).symm | (rw [if_pos h27]; done) | (rw [if_pos h27]; rfl) | (simp only [if_pos h27]; done) | (simp only [if_pos h27]; rfl)) ?_
                          exact hJ26 _ _ _ (by first | exact hM | (simp only [if_pos h27]; exact hM)) (by first | exact lv_sub hl [0, 1, 2, 3, 4, 5, 6, 7, 8, 9, 10, 11, 12, 13, 14, 15] rfl | (simp only [if_pos h27]; exact lv_sub hl [0, 1, 2, 3, 4, 5, 6, 7, 8, 9, 10, 11, 12, 13, 14, 15] rfl))
                      intro H locs ls hM hl
                      refine lv_iload hx hb d_Mo_partAll_486 (lv_at hl 13 rfl) ?_
                      have hJ28 : ∀ (H : Heap) (locs : List Loc) (ls : Array Slot), MO D cT ad (upd (upd (upd (upd (upd (upd I 28 (iI (A 0))) 29 (iI (A 1))) 30 (iI (A 2))) 31 (iI (A 3))) 32 (iI ((A 4) + 1))) 27 (nI Wp.length)) J3 (va_up a 26 f2) g3 s.heap H locs → lv_has ls 17 [(0, .ref (ad 46)), (1, .int (nI b)), (3, .int (iI (e1 0))), (4, .int (iI (e1 1))), (5, .int (iI (e1 2))), (6, .int (iI (e1 3))), (7, .int (iI (e1 4))), (8, .int (iI (e1 5))), (9, .int (iI (e1 6))), (10, .int (iI ((e1 0) + (((e1 3) - (e1 0)) / 2)))), (11, .int (iI ((e1 1) + (((e1 4) - (e1 1)) / 2)))), (12, .int (iI ((e1 2) + (((e1 5) - (e1 2)) / 2)))), (13, .int (nI p9)), (14, .int (bI ((p9 % 2) = 1))), (15, .int (bI ((2 * (p9 / 2 % 2)) = 2))), (16, .int (bI ((4 * (p9 / 4 % 2)) = 4)))] → W p l e (rmOf 4 123) s m args below meth c H locs 0 0 Q (F0 m 498 ls [.int (iI (if (p9 % 2) = 1 then e1 3 else (e1 0) + (((e1 3) - (e1 0)) / 2))), .int (iI (if (4 * (p9 / 4 % 2)) = 4 then ((e1 2) + (((e1 5) - (e1 2)) / 2)) + 1 else e1 2)), .int (iI (if (2 * (p9 / 2 % 2)) = 2 then ((e1 1) + (((e1 4) - (e1 1)) / 2)) + 1 else e1 1)), .int (iI (if (p9 % 2) = 1 then ((e1 0) + (((e1 3) - (e1 0)) / 2)) + 1 else e1 0)), .ref (ad 46)]) := ?_
                      · skip
                        refine bz_eq (tgt := 496) hx hb d_Mo_partAll_488 (by decide) (fun h29 => ?_) (fun h29 => ?_)
                        · skip
                          refine lv_iload hx hb d_Mo_partAll_496 (lv_at hl 9 rfl) ?_
                          refine topi_eq (show (iI ((e1 0) + (((e1 3) - (e1 0)) / 2)) : Int32) = iI (if (p9 % 2) = 1 then e1 3 else (e1 0) + (((e1 3) - (e1 0)) / 2)) by first | rfl | exact (bI_t (by assumption)).symm | exact (bI_f (by assumption)).symm | exact (bI_f (fun z => z (by assumption))).symm | (rw [if_neg h29]; done) | (rw [if_neg h29]; rfl) | (simp only [if_neg h29]; done) | (simp only [if_neg h29]; rfl)) ?_
                          exact hJ28 _ _ _ (by first | exact hM | (simp only [if_neg h29]; exact hM)) (by first | exact lv_sub hl [0, 1, 2, 3, 4, 5, 6, 7, 8, 9, 10, 11, 12, 13, 14, 15] rfl | (simp only [if_neg h29]; exact lv_sub hl [0, 1, 2, 3, 4, 5, 6, 7, 8, 9, 10, 11, 12, 13, 14, 15] rfl))
                        · skip
                          refine lv_iload hx hb d_Mo_partAll_491 (lv_at hl 5 rfl) ?_
                          refine lv_goto (tgt := 498) hx hb d_Mo_partAll_493 (by decide) ?_
                          refine topi_eq (show (iI (e1 3) : Int32) = iI (if (p9 % 2) = 1 then e1 3 else (e1 0) + (((e1 3) - (e1 0)) / 2)) by first | rfl | exact (bI_t (by assumption)).symm | exact (bI_f (by assumption)).symm | exact (bI_f (fun z => z (by assumption))).symm | (rw [if_pos h29]; done) | (rw [if_pos h29]; rfl) | (simp only [if_pos h29]; done) | (simp only [if_pos h29]; rfl)) ?_
                          exact hJ28 _ _ _ (by first | exact hM | (simp only [if_pos h29]; exact hM)) (by first | exact lv_sub hl [0, 1, 2, 3, 4, 5, 6, 7, 8, 9, 10, 11, 12, 13, 14, 15] rfl | (simp only [if_pos h29]; exact lv_sub hl [0, 1, 2, 3, 4, 5, 6, 7, 8, 9, 10, 11, 12, 13, 14, 15] rfl))
                      intro H locs ls hM hl
                      refine lv_iload hx hb d_Mo_partAll_498 (lv_at hl 14 rfl) ?_
                      have hJ30 : ∀ (H : Heap) (locs : List Loc) (ls : Array Slot), MO D cT ad (upd (upd (upd (upd (upd (upd I 28 (iI (A 0))) 29 (iI (A 1))) 30 (iI (A 2))) 31 (iI (A 3))) 32 (iI ((A 4) + 1))) 27 (nI Wp.length)) J3 (va_up a 26 f2) g3 s.heap H locs → lv_has ls 17 [(0, .ref (ad 46)), (1, .int (nI b)), (3, .int (iI (e1 0))), (4, .int (iI (e1 1))), (5, .int (iI (e1 2))), (6, .int (iI (e1 3))), (7, .int (iI (e1 4))), (8, .int (iI (e1 5))), (9, .int (iI (e1 6))), (10, .int (iI ((e1 0) + (((e1 3) - (e1 0)) / 2)))), (11, .int (iI ((e1 1) + (((e1 4) - (e1 1)) / 2)))), (12, .int (iI ((e1 2) + (((e1 5) - (e1 2)) / 2)))), (13, .int (nI p9)), (14, .int (bI ((p9 % 2) = 1))), (15, .int (bI ((2 * (p9 / 2 % 2)) = 2))), (16, .int (bI ((4 * (p9 / 4 % 2)) = 4)))] → W p l e (rmOf 4 123) s m args below meth c H locs 0 0 Q (F0 m 510 ls [.int (iI (if (2 * (p9 / 2 % 2)) = 2 then e1 4 else (e1 1) + (((e1 4) - (e1 1)) / 2))), .int (iI (if (p9 % 2) = 1 then e1 3 else (e1 0) + (((e1 3) - (e1 0)) / 2))), .int (iI (if (4 * (p9 / 4 % 2)) = 4 then ((e1 2) + (((e1 5) - (e1 2)) / 2)) + 1 else e1 2)), .int (iI (if (2 * (p9 / 2 % 2)) = 2 then ((e1 1) + (((e1 4) - (e1 1)) / 2)) + 1 else e1 1)), .int (iI (if (p9 % 2) = 1 then ((e1 0) + (((e1 3) - (e1 0)) / 2)) + 1 else e1 0)), .ref (ad 46)]) := ?_
                      · skip
                        refine bz_eq (tgt := 508) hx hb d_Mo_partAll_500 (by decide) (fun h31 => ?_) (fun h31 => ?_)
                        · skip
                          refine lv_iload hx hb d_Mo_partAll_508 (lv_at hl 10 rfl) ?_
                          refine topi_eq (show (iI ((e1 1) + (((e1 4) - (e1 1)) / 2)) : Int32) = iI (if (2 * (p9 / 2 % 2)) = 2 then e1 4 else (e1 1) + (((e1 4) - (e1 1)) / 2)) by first | rfl | exact (bI_t (by assumption)).symm | exact (bI_f (by assumption)).symm | exact (bI_f (fun z => z (by assumption))).symm | (rw [if_neg h31]; done) | (rw [if_neg h31]; rfl) | (simp only [if_neg h31]; done) | (simp only [if_neg h31]; rfl)) ?_
                          exact hJ30 _ _ _ (by first | exact hM | (simp only [if_neg h31]; exact hM)) (by first | exact lv_sub hl [0, 1, 2, 3, 4, 5, 6, 7, 8, 9, 10, 11, 12, 13, 14, 15] rfl | (simp only [if_neg h31]; exact lv_sub hl [0, 1, 2, 3, 4, 5, 6, 7, 8, 9, 10, 11, 12, 13, 14, 15] rfl))
                        · skip
                          refine lv_iload hx hb d_Mo_partAll_503 (lv_at hl 6 rfl) ?_
                          refine lv_goto (tgt := 510) hx hb d_Mo_partAll_505 (by decide) ?_
                          refine topi_eq (show (iI (e1 4) : Int32) = iI (if (2 * (p9 / 2 % 2)) = 2 then e1 4 else (e1 1) + (((e1 4) - (e1 1)) / 2)) by first | rfl | exact (bI_t (by assumption)).symm | exact (bI_f (by assumption)).symm | exact (bI_f (fun z => z (by assumption))).symm | (rw [if_pos h31]; done) | (rw [if_pos h31]; rfl) | (simp only [if_pos h31]; done) | (simp only [if_pos h31]; rfl)) ?_
                          exact hJ30 _ _ _ (by first | exact hM | (simp only [if_pos h31]; exact hM)) (by first | exact lv_sub hl [0, 1, 2, 3, 4, 5, 6, 7, 8, 9, 10, 11, 12, 13, 14, 15] rfl | (simp only [if_pos h31]; exact lv_sub hl [0, 1, 2, 3, 4, 5, 6, 7, 8, 9, 10, 11, 12, 13, 14, 15] rfl))
                      intro H locs ls hM hl
                      refine lv_iload hx hb d_Mo_partAll_510 (lv_at hl 15 rfl) ?_
                      have hJ32 : ∀ (H : Heap) (locs : List Loc) (ls : Array Slot), MO D cT ad (upd (upd (upd (upd (upd (upd I 28 (iI (A 0))) 29 (iI (A 1))) 30 (iI (A 2))) 31 (iI (A 3))) 32 (iI ((A 4) + 1))) 27 (nI Wp.length)) J3 (va_up a 26 f2) g3 s.heap H locs → lv_has ls 17 [(0, .ref (ad 46)), (1, .int (nI b)), (3, .int (iI (e1 0))), (4, .int (iI (e1 1))), (5, .int (iI (e1 2))), (6, .int (iI (e1 3))), (7, .int (iI (e1 4))), (8, .int (iI (e1 5))), (9, .int (iI (e1 6))), (10, .int (iI ((e1 0) + (((e1 3) - (e1 0)) / 2)))), (11, .int (iI ((e1 1) + (((e1 4) - (e1 1)) / 2)))), (12, .int (iI ((e1 2) + (((e1 5) - (e1 2)) / 2)))), (13, .int (nI p9)), (14, .int (bI ((p9 % 2) = 1))), (15, .int (bI ((2 * (p9 / 2 % 2)) = 2))), (16, .int (bI ((4 * (p9 / 4 % 2)) = 4)))] → W p l e (rmOf 4 123) s m args below meth c H locs 0 0 Q (F0 m 522 ls [.int (iI (if (4 * (p9 / 4 % 2)) = 4 then e1 5 else (e1 2) + (((e1 5) - (e1 2)) / 2))), .int (iI (if (2 * (p9 / 2 % 2)) = 2 then e1 4 else (e1 1) + (((e1 4) - (e1 1)) / 2))), .int (iI (if (p9 % 2) = 1 then e1 3 else (e1 0) + (((e1 3) - (e1 0)) / 2))), .int (iI (if (4 * (p9 / 4 % 2)) = 4 then ((e1 2) + (((e1 5) - (e1 2)) / 2)) + 1 else e1 2)), .int (iI (if (2 * (p9 / 2 % 2)) = 2 then ((e1 1) + (((e1 4) - (e1 1)) / 2)) + 1 else e1 1)), .int (iI (if (p9 % 2) = 1 then ((e1 0) + (((e1 3) - (e1 0)) / 2)) + 1 else e1 0)), .ref (ad 46)]) := ?_
                      · skip
                        refine bz_eq (tgt := 520) hx hb d_Mo_partAll_512 (by decide) (fun h33 => ?_) (fun h33 => ?_)
                        · skip
                          refine lv_iload hx hb d_Mo_partAll_520 (lv_at hl 11 rfl) ?_
                          refine topi_eq (show (iI ((e1 2) + (((e1 5) - (e1 2)) / 2)) : Int32) = iI (if (4 * (p9 / 4 % 2)) = 4 then e1 5 else (e1 2) + (((e1 5) - (e1 2)) / 2)) by first | rfl | exact (bI_t (by assumption)).symm | exact (bI_f (by assumption)).symm | exact (bI_f (fun z => z (by assumption))).symm | (rw [if_neg h33]; done) | (rw [if_neg h33]; rfl) | (simp only [if_neg h33]; done) | (simp only [if_neg h33]; rfl)) ?_
                          exact hJ32 _ _ _ (by first | exact hM | (simp only [if_neg h33]; exact hM)) (by first | exact lv_sub hl [0, 1, 2, 3, 4, 5, 6, 7, 8, 9, 10, 11, 12, 13, 14, 15] rfl | (simp only [if_neg h33]; exact lv_sub hl [0, 1, 2, 3, 4, 5, 6, 7, 8, 9, 10, 11, 12, 13, 14, 15] rfl))
                        · skip
                          refine lv_iload hx hb d_Mo_partAll_515 (lv_at hl 7 rfl) ?_
                          refine lv_goto (tgt := 522) hx hb d_Mo_partAll_517 (by decide) ?_
                          refine topi_eq (show (iI (e1 5) : Int32) = iI (if (4 * (p9 / 4 % 2)) = 4 then e1 5 else (e1 2) + (((e1 5) - (e1 2)) / 2)) by first | rfl | exact (bI_t (by assumption)).symm | exact (bI_f (by assumption)).symm | exact (bI_f (fun z => z (by assumption))).symm | (rw [if_pos h33]; done) | (rw [if_pos h33]; rfl) | (simp only [if_pos h33]; done) | (simp only [if_pos h33]; rfl)) ?_
                          exact hJ32 _ _ _ (by first | exact hM | (simp only [if_pos h33]; exact hM)) (by first | exact lv_sub hl [0, 1, 2, 3, 4, 5, 6, 7, 8, 9, 10, 11, 12, 13, 14, 15] rfl | (simp only [if_pos h33]; exact lv_sub hl [0, 1, 2, 3, 4, 5, 6, 7, 8, 9, 10, 11, 12, 13, 14, 15] rfl))
                      intro H locs ls hM hl
                      refine lv_iload hx hb d_Mo_partAll_522 (lv_at hl 8 rfl) ?_
                      refine lv_iconst (v := 1) hx hb d_Mo_partAll_524 (by decide) ?_
                      refine lv_iadd hx hb d_Mo_partAll_525 ?_
                      refine topi_eq (iI_add (e1 6) 1) ?_
                      refine mo_callv (np := 7) hC hK hM (c_Mo_puts l D cT ad (upd (upd (upd (upd (upd (upd I 28 (iI (A 0))) 29 (iI (A 1))) 30 (iI (A 2))) 31 (iI (A 3))) 32 (iI ((A 4) + 1))) 27 (nI Wp.length)) J3 (va_up a 26 f2) g3  (en7 (if (p9 % 2) = 1 then ((e1 0) + (((e1 3) - (e1 0)) / 2)) + 1 else e1 0) (if (2 * (p9 / 2 % 2)) = 2 then ((e1 1) + (((e1 4) - (e1 1)) / 2)) + 1 else e1 1) (if (4 * (p9 / 4 % 2)) = 4 then ((e1 2) + (((e1 5) - (e1 2)) / 2)) + 1 else e1 2) (if (p9 % 2) = 1 then e1 3 else (e1 0) + (((e1 3) - (e1 0)) / 2)) (if (2 * (p9 / 2 % 2)) = 2 then e1 4 else (e1 1) + (((e1 4) - (e1 1)) / 2)) (if (4 * (p9 / 4 % 2)) = 4 then e1 5 else (e1 2) + (((e1 5) - (e1 2)) / 2)) ((e1 6) + 1)) Wp.length rfl (by omega)) rfl ⟨wl_Mo_243, wi_Mo_puts, ws_Mo_puts, wc_Mo_puts, wn_Mo⟩ ⟨by decide, by decide, by decide +kernel⟩ ⟨Nat.le_of_ble_eq_true rfl, Nat.le_of_ble_eq_true rfl⟩ hl.1 rfl (rest := []) rfl (Nat.le_of_ble_eq_true rfl) ⟨Nat.zero_le _, Nat.zero_le _⟩ d_Mo_partAll_526 (fun I34 J34 a34 g34 H locs hp34 hM => ?_)
                      cases hp34
                      rw [upd_upd, bx_uu] at hM
                      refine lv_iinc (v := nI (p9 + 1)) (lv' := [(13, .int (nI (p9 + 1))), (0, .ref (ad 46)), (1, .int (nI b)), (3, .int (iI (e1 0))), (4, .int (iI (e1 1))), (5, .int (iI (e1 2))), (6, .int (iI (e1 3))), (7, .int (iI (e1 4))), (8, .int (iI (e1 5))), (9, .int (iI (e1 6))), (10, .int (iI ((e1 0) + (((e1 3) - (e1 0)) / 2)))), (11, .int (iI ((e1 1) + (((e1 4) - (e1 1)) / 2)))), (12, .int (iI ((e1 2) + (((e1 5) - (e1 2)) / 2)))), (14, .int (bI ((p9 % 2) = 1))), (15, .int (bI ((2 * (p9 / 2 % 2)) = 2))), (16, .int (bI ((4 * (p9 / 4 % 2)) = 4)))]) hx hb d_Mo_partAll_529 hl (k := 12) rfl (nI_add p9 1) (by decide) rfl (fun ls hl => ?_)
                      refine lv_goto (tgt := 357) hx hb d_Mo_partAll_532 (by decide) ?_
                      have hcok : ¬ (p9 % 2 = 1 ∧ e1 0 = e1 3) ∧ ¬ (2 * (p9 / 2 % 2) = 2 ∧ e1 1 = e1 4) ∧ ¬ (4 * (p9 / 4 % 2) = 4 ∧ e1 2 = e1 5) := by omega
                      exact ih357 (p9 + 1) (chd e1 p9 :: Wp) _ _ _ _ (by omega) (by omega) (WR_push hWRp (chd e1 p9)) (⟨chd_ok hv h63 hcok, by rw [show chd e1 p9 6 = e1 6 + 1 from rfl]; omega, hokp⟩) (by simp only [List.length_cons]; omega) (pl_push htp hcok) (hM) (lv_sub hl [1, 2, 3, 4, 5, 6, 7, 8, 9, 10, 11, 12, 0] rfl)
                    · skip
                      refine lv_iload hx hb d_Mo_partAll_437 (lv_at hl 5 rfl) ?_
                      refine lv_iload hx hb d_Mo_partAll_439 (lv_at hl 8 rfl) ?_
                      refine zc_eq hx hb (e1 2) (e1 5) (by omega) (by omega) (by omega) (by omega) d_Mo_partAll_441 (tgt := 529) (by decide) (fun h35 => ?_) (fun h35 => ?_)
                      · skip
                        refine lv_iinc (v := nI (p9 + 1)) (lv' := [(13, .int (nI (p9 + 1))), (16, .int (bI ((4 * (p9 / 4 % 2)) = 4))), (0, .ref (ad 46)), (1, .int (nI b)), (3, .int (iI (e1 0))), (4, .int (iI (e1 1))), (5, .int (iI (e1 2))), (6, .int (iI (e1 3))), (7, .int (iI (e1 4))), (8, .int (iI (e1 5))), (9, .int (iI (e1 6))), (10, .int (iI ((e1 0) + (((e1 3) - (e1 0)) / 2)))), (11, .int (iI ((e1 1) + (((e1 4) - (e1 1)) / 2)))), (12, .int (iI ((e1 2) + (((e1 5) - (e1 2)) / 2)))), (14, .int (bI ((p9 % 2) = 1))), (15, .int (bI ((2 * (p9 / 2 % 2)) = 2)))]) hx hb d_Mo_partAll_529 hl (k := 13) rfl (nI_add p9 1) (by decide) rfl (fun ls hl => ?_)
                        refine lv_goto (tgt := 357) hx hb d_Mo_partAll_532 (by decide) ?_
                        exact ih357 (p9 + 1) Wp _ _ _ _ (by omega) (by omega) (hWRp) (hokp) (by omega) (by rw [csum_n (by omega)]; exact htp) (hM) (lv_sub hl [2, 3, 4, 5, 6, 7, 8, 9, 10, 11, 12, 13, 0] rfl)
                      · skip
                        refine lv_aload_n hx hb d_Mo_partAll_444 rfl (lv_at hl 1 rfl) ?_
                        refine lv_iload hx hb d_Mo_partAll_445 (lv_at hl 14 rfl) ?_
                        have hJ36 : ∀ (H : Heap) (locs : List Loc) (ls : Array Slot), MO D cT ad (upd (upd (upd (upd (upd (upd I 28 (iI (A 0))) 29 (iI (A 1))) 30 (iI (A 2))) 31 (iI (A 3))) 32 (iI ((A 4) + 1))) 27 (nI Wp.length)) J3 (va_up a 26 f2) g3 s.heap H locs → lv_has ls 17 [(0, .ref (ad 46)), (1, .int (nI b)), (3, .int (iI (e1 0))), (4, .int (iI (e1 1))), (5, .int (iI (e1 2))), (6, .int (iI (e1 3))), (7, .int (iI (e1 4))), (8, .int (iI (e1 5))), (9, .int (iI (e1 6))), (10, .int (iI ((e1 0) + (((e1 3) - (e1 0)) / 2)))), (11, .int (iI ((e1 1) + (((e1 4) - (e1 1)) / 2)))), (12, .int (iI ((e1 2) + (((e1 5) - (e1 2)) / 2)))), (13, .int (nI p9)), (14, .int (bI ((p9 % 2) = 1))), (15, .int (bI ((2 * (p9 / 2 % 2)) = 2))), (16, .int (bI ((4 * (p9 / 4 % 2)) = 4)))] → W p l e (rmOf 4 123) s m args below meth c H locs 0 0 Q (F0 m 458 ls [.int (iI (if (p9 % 2) = 1 then ((e1 0) + (((e1 3) - (e1 0)) / 2)) + 1 else e1 0)), .ref (ad 46)]) := ?_
                        · skip
                          refine bz_eq (tgt := 457) hx hb d_Mo_partAll_447 (by decide) (fun h37 => ?_) (fun h37 => ?_)
                          · skip
                            refine lv_iload_n hx hb d_Mo_partAll_457 rfl (lv_at hl 3 rfl) ?_
                            refine topi_eq (show (iI (e1 0) : Int32) = iI (if (p9 % 2) = 1 then ((e1 0) + (((e1 3) - (e1 0)) / 2)) + 1 else e1 0) by first | rfl | exact (bI_t (by assumption)).symm | exact (bI_f (by assumption)).symm | exact (bI_f (fun z => z (by assumption))).symm | (rw [if_neg h37]; done) | (rw [if_neg h37]; rfl) | (simp only [if_neg h37]; done) | (simp only [if_neg h37]; rfl)) ?_
                            exact hJ36 _ _ _ (by first | exact hM | (simp only [if_neg h37]; exact hM)) (by first | exact lv_sub hl [1, 2, 3, 4, 5, 6, 7, 8, 9, 10, 11, 12, 13, 14, 15, 0] rfl | (simp only [if_neg h37]; exact lv_sub hl [1, 2, 3, 4, 5, 6, 7, 8, 9, 10, 11, 12, 13, 14, 15, 0] rfl))
                          · skip
                            refine lv_iload hx hb d_Mo_partAll_450 (lv_at hl 10 rfl) ?_
                            refine lv_iconst (v := 1) hx hb d_Mo_partAll_452 (by decide) ?_
                            refine lv_iadd hx hb d_Mo_partAll_453 ?_
                            refine topi_eq (iI_add ((e1 0) + (((e1 3) - (e1 0)) / 2)) 1) ?_
                            refine lv_goto (tgt := 458) hx hb d_Mo_partAll_454 (by decide) ?_
                            refine topi_eq (show (iI (((e1 0) + (((e1 3) - (e1 0)) / 2)) + 1) : Int32) = iI (if (p9 % 2) = 1 then ((e1 0) + (((e1 3) - (e1 0)) / 2)) + 1 else e1 0) by first | rfl | exact (bI_t (by assumption)).symm | exact (bI_f (by assumption)).symm | exact (bI_f (fun z => z (by assumption))).symm | (rw [if_pos h37]; done) | (rw [if_pos h37]; rfl) | (simp only [if_pos h37]; done) | (simp only [if_pos h37]; rfl)) ?_
                            exact hJ36 _ _ _ (by first | exact hM | (simp only [if_pos h37]; exact hM)) (by first | exact lv_sub hl [1, 2, 3, 4, 5, 6, 7, 8, 9, 10, 11, 12, 13, 14, 15, 0] rfl | (simp only [if_pos h37]; exact lv_sub hl [1, 2, 3, 4, 5, 6, 7, 8, 9, 10, 11, 12, 13, 14, 15, 0] rfl))
                        intro H locs ls hM hl
                        refine lv_iload hx hb d_Mo_partAll_458 (lv_at hl 14 rfl) ?_
                        have hJ38 : ∀ (H : Heap) (locs : List Loc) (ls : Array Slot), MO D cT ad (upd (upd (upd (upd (upd (upd I 28 (iI (A 0))) 29 (iI (A 1))) 30 (iI (A 2))) 31 (iI (A 3))) 32 (iI ((A 4) + 1))) 27 (nI Wp.length)) J3 (va_up a 26 f2) g3 s.heap H locs → lv_has ls 17 [(0, .ref (ad 46)), (1, .int (nI b)), (3, .int (iI (e1 0))), (4, .int (iI (e1 1))), (5, .int (iI (e1 2))), (6, .int (iI (e1 3))), (7, .int (iI (e1 4))), (8, .int (iI (e1 5))), (9, .int (iI (e1 6))), (10, .int (iI ((e1 0) + (((e1 3) - (e1 0)) / 2)))), (11, .int (iI ((e1 1) + (((e1 4) - (e1 1)) / 2)))), (12, .int (iI ((e1 2) + (((e1 5) - (e1 2)) / 2)))), (13, .int (nI p9)), (14, .int (bI ((p9 % 2) = 1))), (15, .int (bI ((2 * (p9 / 2 % 2)) = 2))), (16, .int (bI ((4 * (p9 / 4 % 2)) = 4)))] → W p l e (rmOf 4 123) s m args below meth c H locs 0 0 Q (F0 m 472 ls [.int (iI (if (2 * (p9 / 2 % 2)) = 2 then ((e1 1) + (((e1 4) - (e1 1)) / 2)) + 1 else e1 1)), .int (iI (if (p9 % 2) = 1 then ((e1 0) + (((e1 3) - (e1 0)) / 2)) + 1 else e1 0)), .ref (ad 46)]) := ?_
                        · skip
                          refine bz_eq (tgt := 470) hx hb d_Mo_partAll_460 (by decide) (fun h39 => ?_) (fun h39 => ?_)
                          · skip
                            refine lv_iload hx hb d_Mo_partAll_470 (lv_at hl 3 rfl) ?_
                            refine topi_eq (show (iI (e1 1) : Int32) = iI (if (2 * (p9 / 2 % 2)) = 2 then ((e1 1) + (((e1 4) - (e1 1)) / 2)) + 1 else e1 1) by first | rfl | exact (bI_t (by assumption)).symm | exact (bI_f (by assumption)).symm | exact (bI_f (fun z => z (by assumption))).symm | (rw [if_neg h39]; done) | (rw [if_neg h39]; rfl) | (simp only [if_neg h39]; done) | (simp only [if_neg h39]; rfl)) ?_
                            exact hJ38 _ _ _ (by first | exact hM | (simp only [if_neg h39]; exact hM)) (by first | exact lv_sub hl [0, 1, 2, 3, 4, 5, 6, 7, 8, 9, 10, 11, 12, 13, 14, 15] rfl | (simp only [if_neg h39]; exact lv_sub hl [0, 1, 2, 3, 4, 5, 6, 7, 8, 9, 10, 11, 12, 13, 14, 15] rfl))
                          · skip
                            refine lv_iload hx hb d_Mo_partAll_463 (lv_at hl 10 rfl) ?_
                            refine lv_iconst (v := 1) hx hb d_Mo_partAll_465 (by decide) ?_
                            refine lv_iadd hx hb d_Mo_partAll_466 ?_
                            refine topi_eq (iI_add ((e1 1) + (((e1 4) - (e1 1)) / 2)) 1) ?_
                            refine lv_goto (tgt := 472) hx hb d_Mo_partAll_467 (by decide) ?_
                            refine topi_eq (show (iI (((e1 1) + (((e1 4) - (e1 1)) / 2)) + 1) : Int32) = iI (if (2 * (p9 / 2 % 2)) = 2 then ((e1 1) + (((e1 4) - (e1 1)) / 2)) + 1 else e1 1) by first | rfl | exact (bI_t (by assumption)).symm | exact (bI_f (by assumption)).symm | exact (bI_f (fun z => z (by assumption))).symm | (rw [if_pos h39]; done) | (rw [if_pos h39]; rfl) | (simp only [if_pos h39]; done) | (simp only [if_pos h39]; rfl)) ?_
                            exact hJ38 _ _ _ (by first | exact hM | (simp only [if_pos h39]; exact hM)) (by first | exact lv_sub hl [0, 1, 2, 3, 4, 5, 6, 7, 8, 9, 10, 11, 12, 13, 14, 15] rfl | (simp only [if_pos h39]; exact lv_sub hl [0, 1, 2, 3, 4, 5, 6, 7, 8, 9, 10, 11, 12, 13, 14, 15] rfl))
                        intro H locs ls hM hl
                        refine lv_iload hx hb d_Mo_partAll_472 (lv_at hl 15 rfl) ?_
                        have hJ40 : ∀ (H : Heap) (locs : List Loc) (ls : Array Slot), MO D cT ad (upd (upd (upd (upd (upd (upd I 28 (iI (A 0))) 29 (iI (A 1))) 30 (iI (A 2))) 31 (iI (A 3))) 32 (iI ((A 4) + 1))) 27 (nI Wp.length)) J3 (va_up a 26 f2) g3 s.heap H locs → lv_has ls 17 [(0, .ref (ad 46)), (1, .int (nI b)), (3, .int (iI (e1 0))), (4, .int (iI (e1 1))), (5, .int (iI (e1 2))), (6, .int (iI (e1 3))), (7, .int (iI (e1 4))), (8, .int (iI (e1 5))), (9, .int (iI (e1 6))), (10, .int (iI ((e1 0) + (((e1 3) - (e1 0)) / 2)))), (11, .int (iI ((e1 1) + (((e1 4) - (e1 1)) / 2)))), (12, .int (iI ((e1 2) + (((e1 5) - (e1 2)) / 2)))), (13, .int (nI p9)), (14, .int (bI ((p9 % 2) = 1))), (15, .int (bI ((2 * (p9 / 2 % 2)) = 2))), (16, .int (bI ((4 * (p9 / 4 % 2)) = 4)))] → W p l e (rmOf 4 123) s m args below meth c H locs 0 0 Q (F0 m 486 ls [.int (iI (if (4 * (p9 / 4 % 2)) = 4 then ((e1 2) + (((e1 5) - (e1 2)) / 2)) + 1 else e1 2)), .int (iI (if (2 * (p9 / 2 % 2)) = 2 then ((e1 1) + (((e1 4) - (e1 1)) / 2)) + 1 else e1 1)), .int (iI (if (p9 % 2) = 1 then ((e1 0) + (((e1 3) - (e1 0)) / 2)) + 1 else e1 0)), .ref (ad 46)]) := ?_
                        · skip
                          refine bz_eq (tgt := 484) hx hb d_Mo_partAll_474 (by decide) (fun h41 => ?_) (fun h41 => ?_)
                          · skip
                            refine lv_iload hx hb d_Mo_partAll_484 (lv_at hl 4 rfl) ?_
                            refine topi_eq (show (iI (e1 2) : Int32) = iI (if (4 * (p9 / 4 % 2)) = 4 then ((e1 2) + (((e1 5) - (e1 2)) / 2)) + 1 else e1 2) by first | rfl | exact (bI_t (by assumption)).symm | exact (bI_f (by assumption)).symm | exact (bI_f (fun z => z (by assumption))).symm | (rw [if_neg h41]; done) | (rw [if_neg h41]; rfl) | (simp only [if_neg h41]; done) | (simp only [if_neg h41]; rfl)) ?_
                            exact hJ40 _ _ _ (by first | exact hM | (simp only [if_neg h41]; exact hM)) (by first | exact lv_sub hl [0, 1, 2, 3, 4, 5, 6, 7, 8, 9, 10, 11, 12, 13, 14, 15] rfl | (simp only [if_neg h41]; exact lv_sub hl [0, 1, 2, 3, 4, 5, 6, 7, 8, 9, 10, 11, 12, 13, 14, 15] rfl))
                          · skip
                            refine lv_iload hx hb d_Mo_partAll_477 (lv_at hl 11 rfl) ?_
                            refine lv_iconst (v := 1) hx hb d_Mo_partAll_479 (by decide) ?_
                            refine lv_iadd hx hb d_Mo_partAll_480 ?_
                            refine topi_eq (iI_add ((e1 2) + (((e1 5) - (e1 2)) / 2)) 1) ?_
                            refine lv_goto (tgt := 486) hx hb d_Mo_partAll_481 (by decide) ?_
                            refine topi_eq (show (iI (((e1 2) + (((e1 5) - (e1 2)) / 2)) + 1) : Int32) = iI (if (4 * (p9 / 4 % 2)) = 4 then ((e1 2) + (((e1 5) - (e1 2)) / 2)) + 1 else e1 2) by first | rfl | exact (bI_t (by assumption)).symm | exact (bI_f (by assumption)).symm | exact (bI_f (fun z => z (by assumption))).symm | (rw [if_pos h41]; done) | (rw [if_pos h41]; rfl) | (simp only [if_pos h41]; done) | (simp only [if_pos h41]; rfl)) ?_
                            exact hJ40 _ _ _ (by first | exact hM | (simp only [if_pos h41]; exact hM)) (by first | exact lv_sub hl [0, 1, 2, 3, 4, 5, 6, 7, 8, 9, 10, 11, 12, 13, 14, 15] rfl | (simp only [if_pos h41]; exact lv_sub hl [0, 1, 2, 3, 4, 5, 6, 7, 8, 9, 10, 11, 12, 13, 14, 15] rfl))
                        intro H locs ls hM hl
                        refine lv_iload hx hb d_Mo_partAll_486 (lv_at hl 13 rfl) ?_
                        have hJ42 : ∀ (H : Heap) (locs : List Loc) (ls : Array Slot), MO D cT ad (upd (upd (upd (upd (upd (upd I 28 (iI (A 0))) 29 (iI (A 1))) 30 (iI (A 2))) 31 (iI (A 3))) 32 (iI ((A 4) + 1))) 27 (nI Wp.length)) J3 (va_up a 26 f2) g3 s.heap H locs → lv_has ls 17 [(0, .ref (ad 46)), (1, .int (nI b)), (3, .int (iI (e1 0))), (4, .int (iI (e1 1))), (5, .int (iI (e1 2))), (6, .int (iI (e1 3))), (7, .int (iI (e1 4))), (8, .int (iI (e1 5))), (9, .int (iI (e1 6))), (10, .int (iI ((e1 0) + (((e1 3) - (e1 0)) / 2)))), (11, .int (iI ((e1 1) + (((e1 4) - (e1 1)) / 2)))), (12, .int (iI ((e1 2) + (((e1 5) - (e1 2)) / 2)))), (13, .int (nI p9)), (14, .int (bI ((p9 % 2) = 1))), (15, .int (bI ((2 * (p9 / 2 % 2)) = 2))), (16, .int (bI ((4 * (p9 / 4 % 2)) = 4)))] → W p l e (rmOf 4 123) s m args below meth c H locs 0 0 Q (F0 m 498 ls [.int (iI (if (p9 % 2) = 1 then e1 3 else (e1 0) + (((e1 3) - (e1 0)) / 2))), .int (iI (if (4 * (p9 / 4 % 2)) = 4 then ((e1 2) + (((e1 5) - (e1 2)) / 2)) + 1 else e1 2)), .int (iI (if (2 * (p9 / 2 % 2)) = 2 then ((e1 1) + (((e1 4) - (e1 1)) / 2)) + 1 else e1 1)), .int (iI (if (p9 % 2) = 1 then ((e1 0) + (((e1 3) - (e1 0)) / 2)) + 1 else e1 0)), .ref (ad 46)]) := ?_
                        · skip
                          refine bz_eq (tgt := 496) hx hb d_Mo_partAll_488 (by decide) (fun h43 => ?_) (fun h43 => ?_)
                          · skip
                            refine lv_iload hx hb d_Mo_partAll_496 (lv_at hl 9 rfl) ?_
                            refine topi_eq (show (iI ((e1 0) + (((e1 3) - (e1 0)) / 2)) : Int32) = iI (if (p9 % 2) = 1 then e1 3 else (e1 0) + (((e1 3) - (e1 0)) / 2)) by first | rfl | exact (bI_t (by assumption)).symm | exact (bI_f (by assumption)).symm | exact (bI_f (fun z => z (by assumption))).symm | (rw [if_neg h43]; done) | (rw [if_neg h43]; rfl) | (simp only [if_neg h43]; done) | (simp only [if_neg h43]; rfl)) ?_
                            exact hJ42 _ _ _ (by first | exact hM | (simp only [if_neg h43]; exact hM)) (by first | exact lv_sub hl [0, 1, 2, 3, 4, 5, 6, 7, 8, 9, 10, 11, 12, 13, 14, 15] rfl | (simp only [if_neg h43]; exact lv_sub hl [0, 1, 2, 3, 4, 5, 6, 7, 8, 9, 10, 11, 12, 13, 14, 15] rfl))
                          · skip
                            refine lv_iload hx hb d_Mo_partAll_491 (lv_at hl 5 rfl) ?_
                            refine lv_goto (tgt := 498) hx hb d_Mo_partAll_493 (by decide) ?_
                            refine topi_eq (show (iI (e1 3) : Int32) = iI (if (p9 % 2) = 1 then e1 3 else (e1 0) + (((e1 3) - (e1 0)) / 2)) by first | rfl | exact (bI_t (by assumption)).symm | exact (bI_f (by assumption)).symm | exact (bI_f (fun z => z (by assumption))).symm | (rw [if_pos h43]; done) | (rw [if_pos h43]; rfl) | (simp only [if_pos h43]; done) | (simp only [if_pos h43]; rfl)) ?_
                            exact hJ42 _ _ _ (by first | exact hM | (simp only [if_pos h43]; exact hM)) (by first | exact lv_sub hl [0, 1, 2, 3, 4, 5, 6, 7, 8, 9, 10, 11, 12, 13, 14, 15] rfl | (simp only [if_pos h43]; exact lv_sub hl [0, 1, 2, 3, 4, 5, 6, 7, 8, 9, 10, 11, 12, 13, 14, 15] rfl))
                        intro H locs ls hM hl
                        refine lv_iload hx hb d_Mo_partAll_498 (lv_at hl 14 rfl) ?_
                        have hJ44 : ∀ (H : Heap) (locs : List Loc) (ls : Array Slot), MO D cT ad (upd (upd (upd (upd (upd (upd I 28 (iI (A 0))) 29 (iI (A 1))) 30 (iI (A 2))) 31 (iI (A 3))) 32 (iI ((A 4) + 1))) 27 (nI Wp.length)) J3 (va_up a 26 f2) g3 s.heap H locs → lv_has ls 17 [(0, .ref (ad 46)), (1, .int (nI b)), (3, .int (iI (e1 0))), (4, .int (iI (e1 1))), (5, .int (iI (e1 2))), (6, .int (iI (e1 3))), (7, .int (iI (e1 4))), (8, .int (iI (e1 5))), (9, .int (iI (e1 6))), (10, .int (iI ((e1 0) + (((e1 3) - (e1 0)) / 2)))), (11, .int (iI ((e1 1) + (((e1 4) - (e1 1)) / 2)))), (12, .int (iI ((e1 2) + (((e1 5) - (e1 2)) / 2)))), (13, .int (nI p9)), (14, .int (bI ((p9 % 2) = 1))), (15, .int (bI ((2 * (p9 / 2 % 2)) = 2))), (16, .int (bI ((4 * (p9 / 4 % 2)) = 4)))] → W p l e (rmOf 4 123) s m args below meth c H locs 0 0 Q (F0 m 510 ls [.int (iI (if (2 * (p9 / 2 % 2)) = 2 then e1 4 else (e1 1) + (((e1 4) - (e1 1)) / 2))), .int (iI (if (p9 % 2) = 1 then e1 3 else (e1 0) + (((e1 3) - (e1 0)) / 2))), .int (iI (if (4 * (p9 / 4 % 2)) = 4 then ((e1 2) + (((e1 5) - (e1 2)) / 2)) + 1 else e1 2)), .int (iI (if (2 * (p9 / 2 % 2)) = 2 then ((e1 1) + (((e1 4) - (e1 1)) / 2)) + 1 else e1 1)), .int (iI (if (p9 % 2) = 1 then ((e1 0) + (((e1 3) - (e1 0)) / 2)) + 1 else e1 0)), .ref (ad 46)]) := ?_
                        · skip
                          refine bz_eq (tgt := 508) hx hb d_Mo_partAll_500 (by decide) (fun h45 => ?_) (fun h45 => ?_)
                          · skip
                            refine lv_iload hx hb d_Mo_partAll_508 (lv_at hl 10 rfl) ?_
                            refine topi_eq (show (iI ((e1 1) + (((e1 4) - (e1 1)) / 2)) : Int32) = iI (if (2 * (p9 / 2 % 2)) = 2 then e1 4 else (e1 1) + (((e1 4) - (e1 1)) / 2)) by first | rfl | exact (bI_t (by assumption)).symm | exact (bI_f (by assumption)).symm | exact (bI_f (fun z => z (by assumption))).symm | (rw [if_neg h45]; done) | (rw [if_neg h45]; rfl) | (simp only [if_neg h45]; done) | (simp only [if_neg h45]; rfl)) ?_
                            exact hJ44 _ _ _ (by first | exact hM | (simp only [if_neg h45]; exact hM)) (by first | exact lv_sub hl [0, 1, 2, 3, 4, 5, 6, 7, 8, 9, 10, 11, 12, 13, 14, 15] rfl | (simp only [if_neg h45]; exact lv_sub hl [0, 1, 2, 3, 4, 5, 6, 7, 8, 9, 10, 11, 12, 13, 14, 15] rfl))
                          · skip
                            refine lv_iload hx hb d_Mo_partAll_503 (lv_at hl 6 rfl) ?_
                            refine lv_goto (tgt := 510) hx hb d_Mo_partAll_505 (by decide) ?_
                            refine topi_eq (show (iI (e1 4) : Int32) = iI (if (2 * (p9 / 2 % 2)) = 2 then e1 4 else (e1 1) + (((e1 4) - (e1 1)) / 2)) by first | rfl | exact (bI_t (by assumption)).symm | exact (bI_f (by assumption)).symm | exact (bI_f (fun z => z (by assumption))).symm | (rw [if_pos h45]; done) | (rw [if_pos h45]; rfl) | (simp only [if_pos h45]; done) | (simp only [if_pos h45]; rfl)) ?_
                            exact hJ44 _ _ _ (by first | exact hM | (simp only [if_pos h45]; exact hM)) (by first | exact lv_sub hl [0, 1, 2, 3, 4, 5, 6, 7, 8, 9, 10, 11, 12, 13, 14, 15] rfl | (simp only [if_pos h45]; exact lv_sub hl [0, 1, 2, 3, 4, 5, 6, 7, 8, 9, 10, 11, 12, 13, 14, 15] rfl))
                        intro H locs ls hM hl
                        refine lv_iload hx hb d_Mo_partAll_510 (lv_at hl 15 rfl) ?_
                        have hJ46 : ∀ (H : Heap) (locs : List Loc) (ls : Array Slot), MO D cT ad (upd (upd (upd (upd (upd (upd I 28 (iI (A 0))) 29 (iI (A 1))) 30 (iI (A 2))) 31 (iI (A 3))) 32 (iI ((A 4) + 1))) 27 (nI Wp.length)) J3 (va_up a 26 f2) g3 s.heap H locs → lv_has ls 17 [(0, .ref (ad 46)), (1, .int (nI b)), (3, .int (iI (e1 0))), (4, .int (iI (e1 1))), (5, .int (iI (e1 2))), (6, .int (iI (e1 3))), (7, .int (iI (e1 4))), (8, .int (iI (e1 5))), (9, .int (iI (e1 6))), (10, .int (iI ((e1 0) + (((e1 3) - (e1 0)) / 2)))), (11, .int (iI ((e1 1) + (((e1 4) - (e1 1)) / 2)))), (12, .int (iI ((e1 2) + (((e1 5) - (e1 2)) / 2)))), (13, .int (nI p9)), (14, .int (bI ((p9 % 2) = 1))), (15, .int (bI ((2 * (p9 / 2 % 2)) = 2))), (16, .int (bI ((4 * (p9 / 4 % 2)) = 4)))] → W p l e (rmOf 4 123) s m args below meth c H locs 0 0 Q (F0 m 522 ls [.int (iI (if (4 * (p9 / 4 % 2)) = 4 then e1 5 else (e1 2) + (((e1 5) - (e1 2)) / 2))), .int (iI (if (2 * (p9 / 2 % 2)) = 2 then e1 4 else (e1 1) + (((e1 4) - (e1 1)) / 2))), .int (iI (if (p9 % 2) = 1 then e1 3 else (e1 0) + (((e1 3) - (e1 0)) / 2))), .int (iI (if (4 * (p9 / 4 % 2)) = 4 then ((e1 2) + (((e1 5) - (e1 2)) / 2)) + 1 else e1 2)), .int (iI (if (2 * (p9 / 2 % 2)) = 2 then ((e1 1) + (((e1 4) - (e1 1)) / 2)) + 1 else e1 1)), .int (iI (if (p9 % 2) = 1 then ((e1 0) + (((e1 3) - (e1 0)) / 2)) + 1 else e1 0)), .ref (ad 46)]) := ?_
                        · skip
                          refine bz_eq (tgt := 520) hx hb d_Mo_partAll_512 (by decide) (fun h47 => ?_) (fun h47 => ?_)
                          · skip
                            refine lv_iload hx hb d_Mo_partAll_520 (lv_at hl 11 rfl) ?_
                            refine topi_eq (show (iI ((e1 2) + (((e1 5) - (e1 2)) / 2)) : Int32) = iI (if (4 * (p9 / 4 % 2)) = 4 then e1 5 else (e1 2) + (((e1 5) - (e1 2)) / 2)) by first | rfl | exact (bI_t (by assumption)).symm | exact (bI_f (by assumption)).symm | exact (bI_f (fun z => z (by assumption))).symm | (rw [if_neg h47]; done) | (rw [if_neg h47]; rfl) | (simp only [if_neg h47]; done) | (simp only [if_neg h47]; rfl)) ?_
                            exact hJ46 _ _ _ (by first | exact hM | (simp only [if_neg h47]; exact hM)) (by first | exact lv_sub hl [0, 1, 2, 3, 4, 5, 6, 7, 8, 9, 10, 11, 12, 13, 14, 15] rfl | (simp only [if_neg h47]; exact lv_sub hl [0, 1, 2, 3, 4, 5, 6, 7, 8, 9, 10, 11, 12, 13, 14, 15] rfl))
                          · skip
                            refine lv_iload hx hb d_Mo_partAll_515 (lv_at hl 7 rfl) ?_
                            refine lv_goto (tgt := 522) hx hb d_Mo_partAll_517 (by decide) ?_
                            refine topi_eq (show (iI (e1 5) : Int32) = iI (if (4 * (p9 / 4 % 2)) = 4 then e1 5 else (e1 2) + (((e1 5) - (e1 2)) / 2)) by first | rfl | exact (bI_t (by assumption)).symm | exact (bI_f (by assumption)).symm | exact (bI_f (fun z => z (by assumption))).symm | (rw [if_pos h47]; done) | (rw [if_pos h47]; rfl) | (simp only [if_pos h47]; done) | (simp only [if_pos h47]; rfl)) ?_
                            exact hJ46 _ _ _ (by first | exact hM | (simp only [if_pos h47]; exact hM)) (by first | exact lv_sub hl [0, 1, 2, 3, 4, 5, 6, 7, 8, 9, 10, 11, 12, 13, 14, 15] rfl | (simp only [if_pos h47]; exact lv_sub hl [0, 1, 2, 3, 4, 5, 6, 7, 8, 9, 10, 11, 12, 13, 14, 15] rfl))
                        intro H locs ls hM hl
                        refine lv_iload hx hb d_Mo_partAll_522 (lv_at hl 8 rfl) ?_
                        refine lv_iconst (v := 1) hx hb d_Mo_partAll_524 (by decide) ?_
                        refine lv_iadd hx hb d_Mo_partAll_525 ?_
                        refine topi_eq (iI_add (e1 6) 1) ?_
                        refine mo_callv (np := 7) hC hK hM (c_Mo_puts l D cT ad (upd (upd (upd (upd (upd (upd I 28 (iI (A 0))) 29 (iI (A 1))) 30 (iI (A 2))) 31 (iI (A 3))) 32 (iI ((A 4) + 1))) 27 (nI Wp.length)) J3 (va_up a 26 f2) g3  (en7 (if (p9 % 2) = 1 then ((e1 0) + (((e1 3) - (e1 0)) / 2)) + 1 else e1 0) (if (2 * (p9 / 2 % 2)) = 2 then ((e1 1) + (((e1 4) - (e1 1)) / 2)) + 1 else e1 1) (if (4 * (p9 / 4 % 2)) = 4 then ((e1 2) + (((e1 5) - (e1 2)) / 2)) + 1 else e1 2) (if (p9 % 2) = 1 then e1 3 else (e1 0) + (((e1 3) - (e1 0)) / 2)) (if (2 * (p9 / 2 % 2)) = 2 then e1 4 else (e1 1) + (((e1 4) - (e1 1)) / 2)) (if (4 * (p9 / 4 % 2)) = 4 then e1 5 else (e1 2) + (((e1 5) - (e1 2)) / 2)) ((e1 6) + 1)) Wp.length rfl (by omega)) rfl ⟨wl_Mo_243, wi_Mo_puts, ws_Mo_puts, wc_Mo_puts, wn_Mo⟩ ⟨by decide, by decide, by decide +kernel⟩ ⟨Nat.le_of_ble_eq_true rfl, Nat.le_of_ble_eq_true rfl⟩ hl.1 rfl (rest := []) rfl (Nat.le_of_ble_eq_true rfl) ⟨Nat.zero_le _, Nat.zero_le _⟩ d_Mo_partAll_526 (fun I48 J48 a48 g48 H locs hp48 hM => ?_)
                        cases hp48
                        rw [upd_upd, bx_uu] at hM
                        refine lv_iinc (v := nI (p9 + 1)) (lv' := [(13, .int (nI (p9 + 1))), (0, .ref (ad 46)), (1, .int (nI b)), (3, .int (iI (e1 0))), (4, .int (iI (e1 1))), (5, .int (iI (e1 2))), (6, .int (iI (e1 3))), (7, .int (iI (e1 4))), (8, .int (iI (e1 5))), (9, .int (iI (e1 6))), (10, .int (iI ((e1 0) + (((e1 3) - (e1 0)) / 2)))), (11, .int (iI ((e1 1) + (((e1 4) - (e1 1)) / 2)))), (12, .int (iI ((e1 2) + (((e1 5) - (e1 2)) / 2)))), (14, .int (bI ((p9 % 2) = 1))), (15, .int (bI ((2 * (p9 / 2 % 2)) = 2))), (16, .int (bI ((4 * (p9 / 4 % 2)) = 4)))]) hx hb d_Mo_partAll_529 hl (k := 12) rfl (nI_add p9 1) (by decide) rfl (fun ls hl => ?_)
                        refine lv_goto (tgt := 357) hx hb d_Mo_partAll_532 (by decide) ?_
                        have hcok : ¬ (p9 % 2 = 1 ∧ e1 0 = e1 3) ∧ ¬ (2 * (p9 / 2 % 2) = 2 ∧ e1 1 = e1 4) ∧ ¬ (4 * (p9 / 4 % 2) = 4 ∧ e1 2 = e1 5) := by omega
                        exact ih357 (p9 + 1) (chd e1 p9 :: Wp) _ _ _ _ (by omega) (by omega) (WR_push hWRp (chd e1 p9)) (⟨chd_ok hv h63 hcok, by rw [show chd e1 p9 6 = e1 6 + 1 from rfl]; omega, hokp⟩) (by simp only [List.length_cons]; omega) (pl_push htp hcok) (hM) (lv_sub hl [1, 2, 3, 4, 5, 6, 7, 8, 9, 10, 11, 12, 0] rfl)
                  · skip
                    refine lv_iload hx hb d_Mo_partAll_425 (lv_at hl 4 rfl) ?_
                    refine lv_iload hx hb d_Mo_partAll_427 (lv_at hl 7 rfl) ?_
                    refine zc_eq hx hb (e1 1) (e1 4) (by omega) (by omega) (by omega) (by omega) d_Mo_partAll_429 (tgt := 529) (by decide) (fun h49 => ?_) (fun h49 => ?_)
                    · skip
                      refine lv_iinc (v := nI (p9 + 1)) (lv' := [(13, .int (nI (p9 + 1))), (16, .int (bI ((4 * (p9 / 4 % 2)) = 4))), (0, .ref (ad 46)), (1, .int (nI b)), (3, .int (iI (e1 0))), (4, .int (iI (e1 1))), (5, .int (iI (e1 2))), (6, .int (iI (e1 3))), (7, .int (iI (e1 4))), (8, .int (iI (e1 5))), (9, .int (iI (e1 6))), (10, .int (iI ((e1 0) + (((e1 3) - (e1 0)) / 2)))), (11, .int (iI ((e1 1) + (((e1 4) - (e1 1)) / 2)))), (12, .int (iI ((e1 2) + (((e1 5) - (e1 2)) / 2)))), (14, .int (bI ((p9 % 2) = 1))), (15, .int (bI ((2 * (p9 / 2 % 2)) = 2)))]) hx hb d_Mo_partAll_529 hl (k := 13) rfl (nI_add p9 1) (by decide) rfl (fun ls hl => ?_)
                      refine lv_goto (tgt := 357) hx hb d_Mo_partAll_532 (by decide) ?_
                      exact ih357 (p9 + 1) Wp _ _ _ _ (by omega) (by omega) (hWRp) (hokp) (by omega) (by rw [csum_n (by omega)]; exact htp) (hM) (lv_sub hl [2, 3, 4, 5, 6, 7, 8, 9, 10, 11, 12, 13, 0] rfl)
                    · skip
                      refine lv_iload hx hb d_Mo_partAll_432 (lv_at hl 0 rfl) ?_
                      refine bz_eq (tgt := 444) hx hb d_Mo_partAll_434 (by decide) (fun h50 => ?_) (fun h50 => ?_)
                      · skip
                        refine lv_aload_n hx hb d_Mo_partAll_444 rfl (lv_at hl 1 rfl) ?_
                        refine lv_iload hx hb d_Mo_partAll_445 (lv_at hl 14 rfl) ?_
                        have hJ51 : ∀ (H : Heap) (locs : List Loc) (ls : Array Slot), MO D cT ad (upd (upd (upd (upd (upd (upd I 28 (iI (A 0))) 29 (iI (A 1))) 30 (iI (A 2))) 31 (iI (A 3))) 32 (iI ((A 4) + 1))) 27 (nI Wp.length)) J3 (va_up a 26 f2) g3 s.heap H locs → lv_has ls 17 [(0, .ref (ad 46)), (1, .int (nI b)), (3, .int (iI (e1 0))), (4, .int (iI (e1 1))), (5, .int (iI (e1 2))), (6, .int (iI (e1 3))), (7, .int (iI (e1 4))), (8, .int (iI (e1 5))), (9, .int (iI (e1 6))), (10, .int (iI ((e1 0) + (((e1 3) - (e1 0)) / 2)))), (11, .int (iI ((e1 1) + (((e1 4) - (e1 1)) / 2)))), (12, .int (iI ((e1 2) + (((e1 5) - (e1 2)) / 2)))), (13, .int (nI p9)), (14, .int (bI ((p9 % 2) = 1))), (15, .int (bI ((2 * (p9 / 2 % 2)) = 2))), (16, .int (bI ((4 * (p9 / 4 % 2)) = 4)))] → W p l e (rmOf 4 123) s m args below meth c H locs 0 0 Q (F0 m 458 ls [.int (iI (if (p9 % 2) = 1 then ((e1 0) + (((e1 3) - (e1 0)) / 2)) + 1 else e1 0)), .ref (ad 46)]) := ?_
                        · skip
                          refine bz_eq (tgt := 457) hx hb d_Mo_partAll_447 (by decide) (fun h52 => ?_) (fun h52 => ?_)
                          · skip
                            refine lv_iload_n hx hb d_Mo_partAll_457 rfl (lv_at hl 3 rfl) ?_
                            refine topi_eq (show (iI (e1 0) : Int32) = iI (if (p9 % 2) = 1 then ((e1 0) + (((e1 3) - (e1 0)) / 2)) + 1 else e1 0) by first | rfl | exact (bI_t (by assumption)).symm | exact (bI_f (by assumption)).symm | exact (bI_f (fun z => z (by assumption))).symm | (rw [if_neg h52]; done) | (rw [if_neg h52]; rfl) | (simp only [if_neg h52]; done) | (simp only [if_neg h52]; rfl)) ?_
                            exact hJ51 _ _ _ (by first | exact hM | (simp only [if_neg h52]; exact hM)) (by first | exact lv_sub hl [1, 2, 3, 4, 5, 6, 7, 8, 9, 10, 11, 12, 13, 14, 15, 0] rfl | (simp only [if_neg h52]; exact lv_sub hl [1, 2, 3, 4, 5, 6, 7, 8, 9, 10, 11, 12, 13, 14, 15, 0] rfl))
                          · skip
                            refine lv_iload hx hb d_Mo_partAll_450 (lv_at hl 10 rfl) ?_
                            refine lv_iconst (v := 1) hx hb d_Mo_partAll_452 (by decide) ?_
                            refine lv_iadd hx hb d_Mo_partAll_453 ?_
                            refine topi_eq (iI_add ((e1 0) + (((e1 3) - (e1 0)) / 2)) 1) ?_
                            refine lv_goto (tgt := 458) hx hb d_Mo_partAll_454 (by decide) ?_
                            refine topi_eq (show (iI (((e1 0) + (((e1 3) - (e1 0)) / 2)) + 1) : Int32) = iI (if (p9 % 2) = 1 then ((e1 0) + (((e1 3) - (e1 0)) / 2)) + 1 else e1 0) by first | rfl | exact (bI_t (by assumption)).symm | exact (bI_f (by assumption)).symm | exact (bI_f (fun z => z (by assumption))).symm | (rw [if_pos h52]; done) | (rw [if_pos h52]; rfl) | (simp only [if_pos h52]; done) | (simp only [if_pos h52]; rfl)) ?_
                            exact hJ51 _ _ _ (by first | exact hM | (simp only [if_pos h52]; exact hM)) (by first | exact lv_sub hl [1, 2, 3, 4, 5, 6, 7, 8, 9, 10, 11, 12, 13, 14, 15, 0] rfl | (simp only [if_pos h52]; exact lv_sub hl [1, 2, 3, 4, 5, 6, 7, 8, 9, 10, 11, 12, 13, 14, 15, 0] rfl))
                        intro H locs ls hM hl
                        refine lv_iload hx hb d_Mo_partAll_458 (lv_at hl 14 rfl) ?_
                        have hJ53 : ∀ (H : Heap) (locs : List Loc) (ls : Array Slot), MO D cT ad (upd (upd (upd (upd (upd (upd I 28 (iI (A 0))) 29 (iI (A 1))) 30 (iI (A 2))) 31 (iI (A 3))) 32 (iI ((A 4) + 1))) 27 (nI Wp.length)) J3 (va_up a 26 f2) g3 s.heap H locs → lv_has ls 17 [(0, .ref (ad 46)), (1, .int (nI b)), (3, .int (iI (e1 0))), (4, .int (iI (e1 1))), (5, .int (iI (e1 2))), (6, .int (iI (e1 3))), (7, .int (iI (e1 4))), (8, .int (iI (e1 5))), (9, .int (iI (e1 6))), (10, .int (iI ((e1 0) + (((e1 3) - (e1 0)) / 2)))), (11, .int (iI ((e1 1) + (((e1 4) - (e1 1)) / 2)))), (12, .int (iI ((e1 2) + (((e1 5) - (e1 2)) / 2)))), (13, .int (nI p9)), (14, .int (bI ((p9 % 2) = 1))), (15, .int (bI ((2 * (p9 / 2 % 2)) = 2))), (16, .int (bI ((4 * (p9 / 4 % 2)) = 4)))] → W p l e (rmOf 4 123) s m args below meth c H locs 0 0 Q (F0 m 472 ls [.int (iI (if (2 * (p9 / 2 % 2)) = 2 then ((e1 1) + (((e1 4) - (e1 1)) / 2)) + 1 else e1 1)), .int (iI (if (p9 % 2) = 1 then ((e1 0) + (((e1 3) - (e1 0)) / 2)) + 1 else e1 0)), .ref (ad 46)]) := ?_
                        · skip
                          refine bz_eq (tgt := 470) hx hb d_Mo_partAll_460 (by decide) (fun h54 => ?_) (fun h54 => ?_)
                          · skip
                            refine lv_iload hx hb d_Mo_partAll_470 (lv_at hl 3 rfl) ?_
                            refine topi_eq (show (iI (e1 1) : Int32) = iI (if (2 * (p9 / 2 % 2)) = 2 then ((e1 1) + (((e1 4) - (e1 1)) / 2)) + 1 else e1 1) by first | rfl | exact (bI_t (by assumption)).symm | exact (bI_f (by assumption)).symm | exact (bI_f (fun z => z (by assumption))).symm | (rw [if_neg h54]; done) | (rw [if_neg h54]; rfl) | (simp only [if_neg h54]; done) | (simp only [if_neg h54]; rfl)) ?_
                            exact hJ53 _ _ _ (by first | exact hM | (simp only [if_neg h54]; exact hM)) (by first | exact lv_sub hl [0, 1, 2, 3, 4, 5, 6, 7, 8, 9, 10, 11, 12, 13, 14, 15] rfl | (simp only [if_neg h54]; exact lv_sub hl [0, 1, 2, 3, 4, 5, 6, 7, 8, 9, 10, 11, 12, 13, 14, 15] rfl))
                          · skip
                            refine lv_iload hx hb d_Mo_partAll_463 (lv_at hl 10 rfl) ?_
                            refine lv_iconst (v := 1) hx hb d_Mo_partAll_465 (by decide) ?_
                            refine lv_iadd hx hb d_Mo_partAll_466 ?_
                            refine topi_eq (iI_add ((e1 1) + (((e1 4) - (e1 1)) / 2)) 1) ?_
                            refine lv_goto (tgt := 472) hx hb d_Mo_partAll_467 (by decide) ?_
                            refine topi_eq (show (iI (((e1 1) + (((e1 4) - (e1 1)) / 2)) + 1) : Int32) = iI (if (2 * (p9 / 2 % 2)) = 2 then ((e1 1) + (((e1 4) - (e1 1)) / 2)) + 1 else e1 1) by first | rfl | exact (bI_t (by assumption)).symm | exact (bI_f (by assumption)).symm | exact (bI_f (fun z => z (by assumption))).symm | (rw [if_pos h54]; done) | (rw [if_pos h54]; rfl) | (simp only [if_pos h54]; done) | (simp only [if_pos h54]; rfl)) ?_
                            exact hJ53 _ _ _ (by first | exact hM | (simp only [if_pos h54]; exact hM)) (by first | exact lv_sub hl [0, 1, 2, 3, 4, 5, 6, 7, 8, 9, 10, 11, 12, 13, 14, 15] rfl | (simp only [if_pos h54]; exact lv_sub hl [0, 1, 2, 3, 4, 5, 6, 7, 8, 9, 10, 11, 12, 13, 14, 15] rfl))
                        intro H locs ls hM hl
                        refine lv_iload hx hb d_Mo_partAll_472 (lv_at hl 15 rfl) ?_
                        have hJ55 : ∀ (H : Heap) (locs : List Loc) (ls : Array Slot), MO D cT ad (upd (upd (upd (upd (upd (upd I 28 (iI (A 0))) 29 (iI (A 1))) 30 (iI (A 2))) 31 (iI (A 3))) 32 (iI ((A 4) + 1))) 27 (nI Wp.length)) J3 (va_up a 26 f2) g3 s.heap H locs → lv_has ls 17 [(0, .ref (ad 46)), (1, .int (nI b)), (3, .int (iI (e1 0))), (4, .int (iI (e1 1))), (5, .int (iI (e1 2))), (6, .int (iI (e1 3))), (7, .int (iI (e1 4))), (8, .int (iI (e1 5))), (9, .int (iI (e1 6))), (10, .int (iI ((e1 0) + (((e1 3) - (e1 0)) / 2)))), (11, .int (iI ((e1 1) + (((e1 4) - (e1 1)) / 2)))), (12, .int (iI ((e1 2) + (((e1 5) - (e1 2)) / 2)))), (13, .int (nI p9)), (14, .int (bI ((p9 % 2) = 1))), (15, .int (bI ((2 * (p9 / 2 % 2)) = 2))), (16, .int (bI ((4 * (p9 / 4 % 2)) = 4)))] → W p l e (rmOf 4 123) s m args below meth c H locs 0 0 Q (F0 m 486 ls [.int (iI (if (4 * (p9 / 4 % 2)) = 4 then ((e1 2) + (((e1 5) - (e1 2)) / 2)) + 1 else e1 2)), .int (iI (if (2 * (p9 / 2 % 2)) = 2 then ((e1 1) + (((e1 4) - (e1 1)) / 2)) + 1 else e1 1)), .int (iI (if (p9 % 2) = 1 then ((e1 0) + (((e1 3) - (e1 0)) / 2)) + 1 else e1 0)), .ref (ad 46)]) := ?_
                        · skip
                          refine bz_eq (tgt := 484) hx hb d_Mo_partAll_474 (by decide) (fun h56 => ?_) (fun h56 => ?_)
                          · skip
                            refine lv_iload hx hb d_Mo_partAll_484 (lv_at hl 4 rfl) ?_
                            refine topi_eq (show (iI (e1 2) : Int32) = iI (if (4 * (p9 / 4 % 2)) = 4 then ((e1 2) + (((e1 5) - (e1 2)) / 2)) + 1 else e1 2) by first | rfl | exact (bI_t (by assumption)).symm | exact (bI_f (by assumption)).symm | exact (bI_f (fun z => z (by assumption))).symm | (rw [if_neg h56]; done) | (rw [if_neg h56]; rfl) | (simp only [if_neg h56]; done) | (simp only [if_neg h56]; rfl)) ?_
                            exact hJ55 _ _ _ (by first | exact hM | (simp only [if_neg h56]; exact hM)) (by first | exact lv_sub hl [0, 1, 2, 3, 4, 5, 6, 7, 8, 9, 10, 11, 12, 13, 14, 15] rfl | (simp only [if_neg h56]; exact lv_sub hl [0, 1, 2, 3, 4, 5, 6, 7, 8, 9, 10, 11, 12, 13, 14, 15] rfl))
                          · skip
                            refine lv_iload hx hb d_Mo_partAll_477 (lv_at hl 11 rfl) ?_
                            refine lv_iconst (v := 1) hx hb d_Mo_partAll_479 (by decide) ?_
                            refine lv_iadd hx hb d_Mo_partAll_480 ?_
                            refine topi_eq (iI_add ((e1 2) + (((e1 5) - (e1 2)) / 2)) 1) ?_
                            refine lv_goto (tgt := 486) hx hb d_Mo_partAll_481 (by decide) ?_
                            refine topi_eq (show (iI (((e1 2) + (((e1 5) - (e1 2)) / 2)) + 1) : Int32) = iI (if (4 * (p9 / 4 % 2)) = 4 then ((e1 2) + (((e1 5) - (e1 2)) / 2)) + 1 else e1 2) by first | rfl | exact (bI_t (by assumption)).symm | exact (bI_f (by assumption)).symm | exact (bI_f (fun z => z (by assumption))).symm | (rw [if_pos h56]; done) | (rw [if_pos h56]; rfl) | (simp only [if_pos h56]; done) | (simp only [if_pos h56]; rfl)) ?_
                            exact hJ55 _ _ _ (by first | exact hM | (simp only [if_pos h56]; exact hM)) (by first | exact lv_sub hl [0, 1, 2, 3, 4, 5, 6, 7, 8, 9, 10, 11, 12, 13, 14, 15] rfl | (simp only [if_pos h56]; exact lv_sub hl [0, 1, 2, 3, 4, 5, 6, 7, 8, 9, 10, 11, 12, 13, 14, 15] rfl))
                        intro H locs ls hM hl
                        refine lv_iload hx hb d_Mo_partAll_486 (lv_at hl 13 rfl) ?_
                        have hJ57 : ∀ (H : Heap) (locs : List Loc) (ls : Array Slot), MO D cT ad (upd (upd (upd (upd (upd (upd I 28 (iI (A 0))) 29 (iI (A 1))) 30 (iI (A 2))) 31 (iI (A 3))) 32 (iI ((A 4) + 1))) 27 (nI Wp.length)) J3 (va_up a 26 f2) g3 s.heap H locs → lv_has ls 17 [(0, .ref (ad 46)), (1, .int (nI b)), (3, .int (iI (e1 0))), (4, .int (iI (e1 1))), (5, .int (iI (e1 2))), (6, .int (iI (e1 3))), (7, .int (iI (e1 4))), (8, .int (iI (e1 5))), (9, .int (iI (e1 6))), (10, .int (iI ((e1 0) + (((e1 3) - (e1 0)) / 2)))), (11, .int (iI ((e1 1) + (((e1 4) - (e1 1)) / 2)))), (12, .int (iI ((e1 2) + (((e1 5) - (e1 2)) / 2)))), (13, .int (nI p9)), (14, .int (bI ((p9 % 2) = 1))), (15, .int (bI ((2 * (p9 / 2 % 2)) = 2))), (16, .int (bI ((4 * (p9 / 4 % 2)) = 4)))] → W p l e (rmOf 4 123) s m args below meth c H locs 0 0 Q (F0 m 498 ls [.int (iI (if (p9 % 2) = 1 then e1 3 else (e1 0) + (((e1 3) - (e1 0)) / 2))), .int (iI (if (4 * (p9 / 4 % 2)) = 4 then ((e1 2) + (((e1 5) - (e1 2)) / 2)) + 1 else e1 2)), .int (iI (if (2 * (p9 / 2 % 2)) = 2 then ((e1 1) + (((e1 4) - (e1 1)) / 2)) + 1 else e1 1)), .int (iI (if (p9 % 2) = 1 then ((e1 0) + (((e1 3) - (e1 0)) / 2)) + 1 else e1 0)), .ref (ad 46)]) := ?_
                        · skip
                          refine bz_eq (tgt := 496) hx hb d_Mo_partAll_488 (by decide) (fun h58 => ?_) (fun h58 => ?_)
                          · skip
                            refine lv_iload hx hb d_Mo_partAll_496 (lv_at hl 9 rfl) ?_
                            refine topi_eq (show (iI ((e1 0) + (((e1 3) - (e1 0)) / 2)) : Int32) = iI (if (p9 % 2) = 1 then e1 3 else (e1 0) + (((e1 3) - (e1 0)) / 2)) by first | rfl | exact (bI_t (by assumption)).symm | exact (bI_f (by assumption)).symm | exact (bI_f (fun z => z (by assumption))).symm | (rw [if_neg h58]; done) | (rw [if_neg h58]; rfl) | (simp only [if_neg h58]; done) | (simp only [if_neg h58]; rfl)) ?_
                            exact hJ57 _ _ _ (by first | exact hM | (simp only [if_neg h58]; exact hM)) (by first | exact lv_sub hl [0, 1, 2, 3, 4, 5, 6, 7, 8, 9, 10, 11, 12, 13, 14, 15] rfl | (simp only [if_neg h58]; exact lv_sub hl [0, 1, 2, 3, 4, 5, 6, 7, 8, 9, 10, 11, 12, 13, 14, 15] rfl))
                          · skip
                            refine lv_iload hx hb d_Mo_partAll_491 (lv_at hl 5 rfl) ?_
                            refine lv_goto (tgt := 498) hx hb d_Mo_partAll_493 (by decide) ?_
                            refine topi_eq (show (iI (e1 3) : Int32) = iI (if (p9 % 2) = 1 then e1 3 else (e1 0) + (((e1 3) - (e1 0)) / 2)) by first | rfl | exact (bI_t (by assumption)).symm | exact (bI_f (by assumption)).symm | exact (bI_f (fun z => z (by assumption))).symm | (rw [if_pos h58]; done) | (rw [if_pos h58]; rfl) | (simp only [if_pos h58]; done) | (simp only [if_pos h58]; rfl)) ?_
                            exact hJ57 _ _ _ (by first | exact hM | (simp only [if_pos h58]; exact hM)) (by first | exact lv_sub hl [0, 1, 2, 3, 4, 5, 6, 7, 8, 9, 10, 11, 12, 13, 14, 15] rfl | (simp only [if_pos h58]; exact lv_sub hl [0, 1, 2, 3, 4, 5, 6, 7, 8, 9, 10, 11, 12, 13, 14, 15] rfl))
                        intro H locs ls hM hl
                        refine lv_iload hx hb d_Mo_partAll_498 (lv_at hl 14 rfl) ?_
                        have hJ59 : ∀ (H : Heap) (locs : List Loc) (ls : Array Slot), MO D cT ad (upd (upd (upd (upd (upd (upd I 28 (iI (A 0))) 29 (iI (A 1))) 30 (iI (A 2))) 31 (iI (A 3))) 32 (iI ((A 4) + 1))) 27 (nI Wp.length)) J3 (va_up a 26 f2) g3 s.heap H locs → lv_has ls 17 [(0, .ref (ad 46)), (1, .int (nI b)), (3, .int (iI (e1 0))), (4, .int (iI (e1 1))), (5, .int (iI (e1 2))), (6, .int (iI (e1 3))), (7, .int (iI (e1 4))), (8, .int (iI (e1 5))), (9, .int (iI (e1 6))), (10, .int (iI ((e1 0) + (((e1 3) - (e1 0)) / 2)))), (11, .int (iI ((e1 1) + (((e1 4) - (e1 1)) / 2)))), (12, .int (iI ((e1 2) + (((e1 5) - (e1 2)) / 2)))), (13, .int (nI p9)), (14, .int (bI ((p9 % 2) = 1))), (15, .int (bI ((2 * (p9 / 2 % 2)) = 2))), (16, .int (bI ((4 * (p9 / 4 % 2)) = 4)))] → W p l e (rmOf 4 123) s m args below meth c H locs 0 0 Q (F0 m 510 ls [.int (iI (if (2 * (p9 / 2 % 2)) = 2 then e1 4 else (e1 1) + (((e1 4) - (e1 1)) / 2))), .int (iI (if (p9 % 2) = 1 then e1 3 else (e1 0) + (((e1 3) - (e1 0)) / 2))), .int (iI (if (4 * (p9 / 4 % 2)) = 4 then ((e1 2) + (((e1 5) - (e1 2)) / 2)) + 1 else e1 2)), .int (iI (if (2 * (p9 / 2 % 2)) = 2 then ((e1 1) + (((e1 4) - (e1 1)) / 2)) + 1 else e1 1)), .int (iI (if (p9 % 2) = 1 then ((e1 0) + (((e1 3) - (e1 0)) / 2)) + 1 else e1 0)), .ref (ad 46)]) := ?_
                        · skip
                          refine bz_eq (tgt := 508) hx hb d_Mo_partAll_500 (by decide) (fun h60 => ?_) (fun h60 => ?_)
                          · skip
                            refine lv_iload hx hb d_Mo_partAll_508 (lv_at hl 10 rfl) ?_
                            refine topi_eq (show (iI ((e1 1) + (((e1 4) - (e1 1)) / 2)) : Int32) = iI (if (2 * (p9 / 2 % 2)) = 2 then e1 4 else (e1 1) + (((e1 4) - (e1 1)) / 2)) by first | rfl | exact (bI_t (by assumption)).symm | exact (bI_f (by assumption)).symm | exact (bI_f (fun z => z (by assumption))).symm | (rw [if_neg h60]; done) | (rw [if_neg h60]; rfl) | (simp only [if_neg h60]; done) | (simp only [if_neg h60]; rfl)) ?_
                            exact hJ59 _ _ _ (by first | exact hM | (simp only [if_neg h60]; exact hM)) (by first | exact lv_sub hl [0, 1, 2, 3, 4, 5, 6, 7, 8, 9, 10, 11, 12, 13, 14, 15] rfl | (simp only [if_neg h60]; exact lv_sub hl [0, 1, 2, 3, 4, 5, 6, 7, 8, 9, 10, 11, 12, 13, 14, 15] rfl))
                          · skip
                            refine lv_iload hx hb d_Mo_partAll_503 (lv_at hl 6 rfl) ?_
                            refine lv_goto (tgt := 510) hx hb d_Mo_partAll_505 (by decide) ?_
                            refine topi_eq (show (iI (e1 4) : Int32) = iI (if (2 * (p9 / 2 % 2)) = 2 then e1 4 else (e1 1) + (((e1 4) - (e1 1)) / 2)) by first | rfl | exact (bI_t (by assumption)).symm | exact (bI_f (by assumption)).symm | exact (bI_f (fun z => z (by assumption))).symm | (rw [if_pos h60]; done) | (rw [if_pos h60]; rfl) | (simp only [if_pos h60]; done) | (simp only [if_pos h60]; rfl)) ?_
                            exact hJ59 _ _ _ (by first | exact hM | (simp only [if_pos h60]; exact hM)) (by first | exact lv_sub hl [0, 1, 2, 3, 4, 5, 6, 7, 8, 9, 10, 11, 12, 13, 14, 15] rfl | (simp only [if_pos h60]; exact lv_sub hl [0, 1, 2, 3, 4, 5, 6, 7, 8, 9, 10, 11, 12, 13, 14, 15] rfl))
                        intro H locs ls hM hl
                        refine lv_iload hx hb d_Mo_partAll_510 (lv_at hl 15 rfl) ?_
                        have hJ61 : ∀ (H : Heap) (locs : List Loc) (ls : Array Slot), MO D cT ad (upd (upd (upd (upd (upd (upd I 28 (iI (A 0))) 29 (iI (A 1))) 30 (iI (A 2))) 31 (iI (A 3))) 32 (iI ((A 4) + 1))) 27 (nI Wp.length)) J3 (va_up a 26 f2) g3 s.heap H locs → lv_has ls 17 [(0, .ref (ad 46)), (1, .int (nI b)), (3, .int (iI (e1 0))), (4, .int (iI (e1 1))), (5, .int (iI (e1 2))), (6, .int (iI (e1 3))), (7, .int (iI (e1 4))), (8, .int (iI (e1 5))), (9, .int (iI (e1 6))), (10, .int (iI ((e1 0) + (((e1 3) - (e1 0)) / 2)))), (11, .int (iI ((e1 1) + (((e1 4) - (e1 1)) / 2)))), (12, .int (iI ((e1 2) + (((e1 5) - (e1 2)) / 2)))), (13, .int (nI p9)), (14, .int (bI ((p9 % 2) = 1))), (15, .int (bI ((2 * (p9 / 2 % 2)) = 2))), (16, .int (bI ((4 * (p9 / 4 % 2)) = 4)))] → W p l e (rmOf 4 123) s m args below meth c H locs 0 0 Q (F0 m 522 ls [.int (iI (if (4 * (p9 / 4 % 2)) = 4 then e1 5 else (e1 2) + (((e1 5) - (e1 2)) / 2))), .int (iI (if (2 * (p9 / 2 % 2)) = 2 then e1 4 else (e1 1) + (((e1 4) - (e1 1)) / 2))), .int (iI (if (p9 % 2) = 1 then e1 3 else (e1 0) + (((e1 3) - (e1 0)) / 2))), .int (iI (if (4 * (p9 / 4 % 2)) = 4 then ((e1 2) + (((e1 5) - (e1 2)) / 2)) + 1 else e1 2)), .int (iI (if (2 * (p9 / 2 % 2)) = 2 then ((e1 1) + (((e1 4) - (e1 1)) / 2)) + 1 else e1 1)), .int (iI (if (p9 % 2) = 1 then ((e1 0) + (((e1 3) - (e1 0)) / 2)) + 1 else e1 0)), .ref (ad 46)]) := ?_
                        · skip
                          refine bz_eq (tgt := 520) hx hb d_Mo_partAll_512 (by decide) (fun h62 => ?_) (fun h62 => ?_)
                          · skip
                            refine lv_iload hx hb d_Mo_partAll_520 (lv_at hl 11 rfl) ?_
                            refine topi_eq (show (iI ((e1 2) + (((e1 5) - (e1 2)) / 2)) : Int32) = iI (if (4 * (p9 / 4 % 2)) = 4 then e1 5 else (e1 2) + (((e1 5) - (e1 2)) / 2)) by first | rfl | exact (bI_t (by assumption)).symm | exact (bI_f (by assumption)).symm | exact (bI_f (fun z => z (by assumption))).symm | (rw [if_neg h62]; done) | (rw [if_neg h62]; rfl) | (simp only [if_neg h62]; done) | (simp only [if_neg h62]; rfl)) ?_
                            exact hJ61 _ _ _ (by first | exact hM | (simp only [if_neg h62]; exact hM)) (by first | exact lv_sub hl [0, 1, 2, 3, 4, 5, 6, 7, 8, 9, 10, 11, 12, 13, 14, 15] rfl | (simp only [if_neg h62]; exact lv_sub hl [0, 1, 2, 3, 4, 5, 6, 7, 8, 9, 10, 11, 12, 13, 14, 15] rfl))
                          · skip
                            refine lv_iload hx hb d_Mo_partAll_515 (lv_at hl 7 rfl) ?_
                            refine lv_goto (tgt := 522) hx hb d_Mo_partAll_517 (by decide) ?_
                            refine topi_eq (show (iI (e1 5) : Int32) = iI (if (4 * (p9 / 4 % 2)) = 4 then e1 5 else (e1 2) + (((e1 5) - (e1 2)) / 2)) by first | rfl | exact (bI_t (by assumption)).symm | exact (bI_f (by assumption)).symm | exact (bI_f (fun z => z (by assumption))).symm | (rw [if_pos h62]; done) | (rw [if_pos h62]; rfl) | (simp only [if_pos h62]; done) | (simp only [if_pos h62]; rfl)) ?_
                            exact hJ61 _ _ _ (by first | exact hM | (simp only [if_pos h62]; exact hM)) (by first | exact lv_sub hl [0, 1, 2, 3, 4, 5, 6, 7, 8, 9, 10, 11, 12, 13, 14, 15] rfl | (simp only [if_pos h62]; exact lv_sub hl [0, 1, 2, 3, 4, 5, 6, 7, 8, 9, 10, 11, 12, 13, 14, 15] rfl))
                        intro H locs ls hM hl
                        refine lv_iload hx hb d_Mo_partAll_522 (lv_at hl 8 rfl) ?_
                        refine lv_iconst (v := 1) hx hb d_Mo_partAll_524 (by decide) ?_
                        refine lv_iadd hx hb d_Mo_partAll_525 ?_
                        refine topi_eq (iI_add (e1 6) 1) ?_
                        refine mo_callv (np := 7) hC hK hM (c_Mo_puts l D cT ad (upd (upd (upd (upd (upd (upd I 28 (iI (A 0))) 29 (iI (A 1))) 30 (iI (A 2))) 31 (iI (A 3))) 32 (iI ((A 4) + 1))) 27 (nI Wp.length)) J3 (va_up a 26 f2) g3  (en7 (if (p9 % 2) = 1 then ((e1 0) + (((e1 3) - (e1 0)) / 2)) + 1 else e1 0) (if (2 * (p9 / 2 % 2)) = 2 then ((e1 1) + (((e1 4) - (e1 1)) / 2)) + 1 else e1 1) (if (4 * (p9 / 4 % 2)) = 4 then ((e1 2) + (((e1 5) - (e1 2)) / 2)) + 1 else e1 2) (if (p9 % 2) = 1 then e1 3 else (e1 0) + (((e1 3) - (e1 0)) / 2)) (if (2 * (p9 / 2 % 2)) = 2 then e1 4 else (e1 1) + (((e1 4) - (e1 1)) / 2)) (if (4 * (p9 / 4 % 2)) = 4 then e1 5 else (e1 2) + (((e1 5) - (e1 2)) / 2)) ((e1 6) + 1)) Wp.length rfl (by omega)) rfl ⟨wl_Mo_243, wi_Mo_puts, ws_Mo_puts, wc_Mo_puts, wn_Mo⟩ ⟨by decide, by decide, by decide +kernel⟩ ⟨Nat.le_of_ble_eq_true rfl, Nat.le_of_ble_eq_true rfl⟩ hl.1 rfl (rest := []) rfl (Nat.le_of_ble_eq_true rfl) ⟨Nat.zero_le _, Nat.zero_le _⟩ d_Mo_partAll_526 (fun I63 J63 a63 g63 H locs hp63 hM => ?_)
                        cases hp63
                        rw [upd_upd, bx_uu] at hM
                        refine lv_iinc (v := nI (p9 + 1)) (lv' := [(13, .int (nI (p9 + 1))), (0, .ref (ad 46)), (1, .int (nI b)), (3, .int (iI (e1 0))), (4, .int (iI (e1 1))), (5, .int (iI (e1 2))), (6, .int (iI (e1 3))), (7, .int (iI (e1 4))), (8, .int (iI (e1 5))), (9, .int (iI (e1 6))), (10, .int (iI ((e1 0) + (((e1 3) - (e1 0)) / 2)))), (11, .int (iI ((e1 1) + (((e1 4) - (e1 1)) / 2)))), (12, .int (iI ((e1 2) + (((e1 5) - (e1 2)) / 2)))), (14, .int (bI ((p9 % 2) = 1))), (15, .int (bI ((2 * (p9 / 2 % 2)) = 2))), (16, .int (bI ((4 * (p9 / 4 % 2)) = 4)))]) hx hb d_Mo_partAll_529 hl (k := 12) rfl (nI_add p9 1) (by decide) rfl (fun ls hl => ?_)
                        refine lv_goto (tgt := 357) hx hb d_Mo_partAll_532 (by decide) ?_
                        have hcok : ¬ (p9 % 2 = 1 ∧ e1 0 = e1 3) ∧ ¬ (2 * (p9 / 2 % 2) = 2 ∧ e1 1 = e1 4) ∧ ¬ (4 * (p9 / 4 % 2) = 4 ∧ e1 2 = e1 5) := by omega
                        exact ih357 (p9 + 1) (chd e1 p9 :: Wp) _ _ _ _ (by omega) (by omega) (WR_push hWRp (chd e1 p9)) (⟨chd_ok hv h63 hcok, by rw [show chd e1 p9 6 = e1 6 + 1 from rfl]; omega, hokp⟩) (by simp only [List.length_cons]; omega) (pl_push htp hcok) (hM) (lv_sub hl [1, 2, 3, 4, 5, 6, 7, 8, 9, 10, 11, 12, 0] rfl)
                      · skip
                        refine lv_iload hx hb d_Mo_partAll_437 (lv_at hl 5 rfl) ?_
                        refine lv_iload hx hb d_Mo_partAll_439 (lv_at hl 8 rfl) ?_
                        refine zc_eq hx hb (e1 2) (e1 5) (by omega) (by omega) (by omega) (by omega) d_Mo_partAll_441 (tgt := 529) (by decide) (fun h64 => ?_) (fun h64 => ?_)
                        · skip
                          refine lv_iinc (v := nI (p9 + 1)) (lv' := [(13, .int (nI (p9 + 1))), (16, .int (bI ((4 * (p9 / 4 % 2)) = 4))), (0, .ref (ad 46)), (1, .int (nI b)), (3, .int (iI (e1 0))), (4, .int (iI (e1 1))), (5, .int (iI (e1 2))), (6, .int (iI (e1 3))), (7, .int (iI (e1 4))), (8, .int (iI (e1 5))), (9, .int (iI (e1 6))), (10, .int (iI ((e1 0) + (((e1 3) - (e1 0)) / 2)))), (11, .int (iI ((e1 1) + (((e1 4) - (e1 1)) / 2)))), (12, .int (iI ((e1 2) + (((e1 5) - (e1 2)) / 2)))), (14, .int (bI ((p9 % 2) = 1))), (15, .int (bI ((2 * (p9 / 2 % 2)) = 2)))]) hx hb d_Mo_partAll_529 hl (k := 13) rfl (nI_add p9 1) (by decide) rfl (fun ls hl => ?_)
                          refine lv_goto (tgt := 357) hx hb d_Mo_partAll_532 (by decide) ?_
                          exact ih357 (p9 + 1) Wp _ _ _ _ (by omega) (by omega) (hWRp) (hokp) (by omega) (by rw [csum_n (by omega)]; exact htp) (hM) (lv_sub hl [2, 3, 4, 5, 6, 7, 8, 9, 10, 11, 12, 13, 0] rfl)
                        · skip
                          refine lv_aload_n hx hb d_Mo_partAll_444 rfl (lv_at hl 1 rfl) ?_
                          refine lv_iload hx hb d_Mo_partAll_445 (lv_at hl 14 rfl) ?_
                          have hJ65 : ∀ (H : Heap) (locs : List Loc) (ls : Array Slot), MO D cT ad (upd (upd (upd (upd (upd (upd I 28 (iI (A 0))) 29 (iI (A 1))) 30 (iI (A 2))) 31 (iI (A 3))) 32 (iI ((A 4) + 1))) 27 (nI Wp.length)) J3 (va_up a 26 f2) g3 s.heap H locs → lv_has ls 17 [(0, .ref (ad 46)), (1, .int (nI b)), (3, .int (iI (e1 0))), (4, .int (iI (e1 1))), (5, .int (iI (e1 2))), (6, .int (iI (e1 3))), (7, .int (iI (e1 4))), (8, .int (iI (e1 5))), (9, .int (iI (e1 6))), (10, .int (iI ((e1 0) + (((e1 3) - (e1 0)) / 2)))), (11, .int (iI ((e1 1) + (((e1 4) - (e1 1)) / 2)))), (12, .int (iI ((e1 2) + (((e1 5) - (e1 2)) / 2)))), (13, .int (nI p9)), (14, .int (bI ((p9 % 2) = 1))), (15, .int (bI ((2 * (p9 / 2 % 2)) = 2))), (16, .int (bI ((4 * (p9 / 4 % 2)) = 4)))] → W p l e (rmOf 4 123) s m args below meth c H locs 0 0 Q (F0 m 458 ls [.int (iI (if (p9 % 2) = 1 then ((e1 0) + (((e1 3) - (e1 0)) / 2)) + 1 else e1 0)), .ref (ad 46)]) := ?_
                          · skip
                            refine bz_eq (tgt := 457) hx hb d_Mo_partAll_447 (by decide) (fun h66 => ?_) (fun h66 => ?_)
                            · skip
                              refine lv_iload_n hx hb d_Mo_partAll_457 rfl (lv_at hl 3 rfl) ?_
                              refine topi_eq (show (iI (e1 0) : Int32) = iI (if (p9 % 2) = 1 then ((e1 0) + (((e1 3) - (e1 0)) / 2)) + 1 else e1 0) by first | rfl | exact (bI_t (by assumption)).symm | exact (bI_f (by assumption)).symm | exact (bI_f (fun z => z (by assumption))).symm | (rw [if_neg h66]; done) | (rw [if_neg h66]; rfl) | (simp only [if_neg h66]; done) | (simp only [if_neg h66]; rfl)) ?_
                              exact hJ65 _ _ _ (by first | exact hM | (simp only [if_neg h66]; exact hM)) (by first | exact lv_sub hl [1, 2, 3, 4, 5, 6, 7, 8, 9, 10, 11, 12, 13, 14, 15, 0] rfl | (simp only [if_neg h66]; exact lv_sub hl [1, 2, 3, 4, 5, 6, 7, 8, 9, 10, 11, 12, 13, 14, 15, 0] rfl))
                            · skip
                              refine lv_iload hx hb d_Mo_partAll_450 (lv_at hl 10 rfl) ?_
                              refine lv_iconst (v := 1) hx hb d_Mo_partAll_452 (by decide) ?_
                              refine lv_iadd hx hb d_Mo_partAll_453 ?_
                              refine topi_eq (iI_add ((e1 0) + (((e1 3) - (e1 0)) / 2)) 1) ?_
                              refine lv_goto (tgt := 458) hx hb d_Mo_partAll_454 (by decide) ?_
                              refine topi_eq (show (iI (((e1 0) + (((e1 3) - (e1 0)) / 2)) + 1) : Int32) = iI (if (p9 % 2) = 1 then ((e1 0) + (((e1 3) - (e1 0)) / 2)) + 1 else e1 0) by first | rfl | exact (bI_t (by assumption)).symm | exact (bI_f (by assumption)).symm | exact (bI_f (fun z => z (by assumption))).symm | (rw [if_pos h66]; done) | (rw [if_pos h66]; rfl) | (simp only [if_pos h66]; done) | (simp only [if_pos h66]; rfl)) ?_
                              exact hJ65 _ _ _ (by first | exact hM | (simp only [if_pos h66]; exact hM)) (by first | exact lv_sub hl [1, 2, 3, 4, 5, 6, 7, 8, 9, 10, 11, 12, 13, 14, 15, 0] rfl | (simp only [if_pos h66]; exact lv_sub hl [1, 2, 3, 4, 5, 6, 7, 8, 9, 10, 11, 12, 13, 14, 15, 0] rfl))
                          intro H locs ls hM hl
                          refine lv_iload hx hb d_Mo_partAll_458 (lv_at hl 14 rfl) ?_
                          have hJ67 : ∀ (H : Heap) (locs : List Loc) (ls : Array Slot), MO D cT ad (upd (upd (upd (upd (upd (upd I 28 (iI (A 0))) 29 (iI (A 1))) 30 (iI (A 2))) 31 (iI (A 3))) 32 (iI ((A 4) + 1))) 27 (nI Wp.length)) J3 (va_up a 26 f2) g3 s.heap H locs → lv_has ls 17 [(0, .ref (ad 46)), (1, .int (nI b)), (3, .int (iI (e1 0))), (4, .int (iI (e1 1))), (5, .int (iI (e1 2))), (6, .int (iI (e1 3))), (7, .int (iI (e1 4))), (8, .int (iI (e1 5))), (9, .int (iI (e1 6))), (10, .int (iI ((e1 0) + (((e1 3) - (e1 0)) / 2)))), (11, .int (iI ((e1 1) + (((e1 4) - (e1 1)) / 2)))), (12, .int (iI ((e1 2) + (((e1 5) - (e1 2)) / 2)))), (13, .int (nI p9)), (14, .int (bI ((p9 % 2) = 1))), (15, .int (bI ((2 * (p9 / 2 % 2)) = 2))), (16, .int (bI ((4 * (p9 / 4 % 2)) = 4)))] → W p l e (rmOf 4 123) s m args below meth c H locs 0 0 Q (F0 m 472 ls [.int (iI (if (2 * (p9 / 2 % 2)) = 2 then ((e1 1) + (((e1 4) - (e1 1)) / 2)) + 1 else e1 1)), .int (iI (if (p9 % 2) = 1 then ((e1 0) + (((e1 3) - (e1 0)) / 2)) + 1 else e1 0)), .ref (ad 46)]) := ?_
                          · skip
                            refine bz_eq (tgt := 470) hx hb d_Mo_partAll_460 (by decide) (fun h68 => ?_) (fun h68 => ?_)
                            · skip
                              refine lv_iload hx hb d_Mo_partAll_470 (lv_at hl 3 rfl) ?_
                              refine topi_eq (show (iI (e1 1) : Int32) = iI (if (2 * (p9 / 2 % 2)) = 2 then ((e1 1) + (((e1 4) - (e1 1)) / 2)) + 1 else e1 1) by first | rfl | exact (bI_t (by assumption)).symm | exact (bI_f (by assumption)).symm | exact (bI_f (fun z => z (by assumption))).symm | (rw [if_neg h68]; done) | (rw [if_neg h68]; rfl) | (simp only [if_neg h68]; done) | (simp only [if_neg h68]; rfl)) ?_
                              exact hJ67 _ _ _ (by first | exact hM | (simp only [if_neg h68]; exact hM)) (by first | exact lv_sub hl [0, 1, 2, 3, 4, 5, 6, 7, 8, 9, 10, 11, 12, 13, 14, 15] rfl | (simp only [if_neg h68]; exact lv_sub hl [0, 1, 2, 3, 4, 5, 6, 7, 8, 9, 10, 11, 12, 13, 14, 15] rfl))
                            · skip
                              refine lv_iload hx hb d_Mo_partAll_463 (lv_at hl 10 rfl) ?_
                              refine lv_iconst (v := 1) hx hb d_Mo_partAll_465 (by decide) ?_
                              refine lv_iadd hx hb d_Mo_partAll_466 ?_
                              refine topi_eq (iI_add ((e1 1) + (((e1 4) - (e1 1)) / 2)) 1) ?_
                              refine lv_goto (tgt := 472) hx hb d_Mo_partAll_467 (by decide) ?_
                              refine topi_eq (show (iI (((e1 1) + (((e1 4) - (e1 1)) / 2)) + 1) : Int32) = iI (if (2 * (p9 / 2 % 2)) = 2 then ((e1 1) + (((e1 4) - (e1 1)) / 2)) + 1 else e1 1) by first | rfl | exact (bI_t (by assumption)).symm | exact (bI_f (by assumption)).symm | exact (bI_f (fun z => z (by assumption))).symm | (rw [if_pos h68]; done) | (rw [if_pos h68]; rfl) | (simp only [if_pos h68]; done) | (simp only [if_pos h68]; rfl)) ?_
                              exact hJ67 _ _ _ (by first | exact hM | (simp only [if_pos h68]; exact hM)) (by first | exact lv_sub hl [0, 1, 2, 3, 4, 5, 6, 7, 8, 9, 10, 11, 12, 13, 14, 15] rfl | (simp only [if_pos h68]; exact lv_sub hl [0, 1, 2, 3, 4, 5, 6, 7, 8, 9, 10, 11, 12, 13, 14, 15] rfl))
                          intro H locs ls hM hl
                          refine lv_iload hx hb d_Mo_partAll_472 (lv_at hl 15 rfl) ?_
                          have hJ69 : ∀ (H : Heap) (locs : List Loc) (ls : Array Slot), MO D cT ad (upd (upd (upd (upd (upd (upd I 28 (iI (A 0))) 29 (iI (A 1))) 30 (iI (A 2))) 31 (iI (A 3))) 32 (iI ((A 4) + 1))) 27 (nI Wp.length)) J3 (va_up a 26 f2) g3 s.heap H locs → lv_has ls 17 [(0, .ref (ad 46)), (1, .int (nI b)), (3, .int (iI (e1 0))), (4, .int (iI (e1 1))), (5, .int (iI (e1 2))), (6, .int (iI (e1 3))), (7, .int (iI (e1 4))), (8, .int (iI (e1 5))), (9, .int (iI (e1 6))), (10, .int (iI ((e1 0) + (((e1 3) - (e1 0)) / 2)))), (11, .int (iI ((e1 1) + (((e1 4) - (e1 1)) / 2)))), (12, .int (iI ((e1 2) + (((e1 5) - (e1 2)) / 2)))), (13, .int (nI p9)), (14, .int (bI ((p9 % 2) = 1))), (15, .int (bI ((2 * (p9 / 2 % 2)) = 2))), (16, .int (bI ((4 * (p9 / 4 % 2)) = 4)))] → W p l e (rmOf 4 123) s m args below meth c H locs 0 0 Q (F0 m 486 ls [.int (iI (if (4 * (p9 / 4 % 2)) = 4 then ((e1 2) + (((e1 5) - (e1 2)) / 2)) + 1 else e1 2)), .int (iI (if (2 * (p9 / 2 % 2)) = 2 then ((e1 1) + (((e1 4) - (e1 1)) / 2)) + 1 else e1 1)), .int (iI (if (p9 % 2) = 1 then ((e1 0) + (((e1 3) - (e1 0)) / 2)) + 1 else e1 0)), .ref (ad 46)]) := ?_
                          · skip
                            refine bz_eq (tgt := 484) hx hb d_Mo_partAll_474 (by decide) (fun h70 => ?_) (fun h70 => ?_)
                            · skip
                              refine lv_iload hx hb d_Mo_partAll_484 (lv_at hl 4 rfl) ?_
                              refine topi_eq (show (iI (e1 2) : Int32) = iI (if (4 * (p9 / 4 % 2)) = 4 then ((e1 2) + (((e1 5) - (e1 2)) / 2)) + 1 else e1 2) by first | rfl | exact (bI_t (by assumption)).symm | exact (bI_f (by assumption)).symm | exact (bI_f (fun z => z (by assumption))).symm | (rw [if_neg h70]; done) | (rw [if_neg h70]; rfl) | (simp only [if_neg h70]; done) | (simp only [if_neg h70]; rfl)) ?_
                              exact hJ69 _ _ _ (by first | exact hM | (simp only [if_neg h70]; exact hM)) (by first | exact lv_sub hl [0, 1, 2, 3, 4, 5, 6, 7, 8, 9, 10, 11, 12, 13, 14, 15] rfl | (simp only [if_neg h70]; exact lv_sub hl [0, 1, 2, 3, 4, 5, 6, 7, 8, 9, 10, 11, 12, 13, 14, 15] rfl))
                            · skip
                              refine lv_iload hx hb d_Mo_partAll_477 (lv_at hl 11 rfl) ?_
                              refine lv_iconst (v := 1) hx hb d_Mo_partAll_479 (by decide) ?_
                              refine lv_iadd hx hb d_Mo_partAll_480 ?_
                              refine topi_eq (iI_add ((e1 2) + (((e1 5) - (e1 2)) / 2)) 1) ?_
                              refine lv_goto (tgt := 486) hx hb d_Mo_partAll_481 (by decide) ?_
                              refine topi_eq (show (iI (((e1 2) + (((e1 5) - (e1 2)) / 2)) + 1) : Int32) = iI (if (4 * (p9 / 4 % 2)) = 4 then ((e1 2) + (((e1 5) - (e1 2)) / 2)) + 1 else e1 2) by first | rfl | exact (bI_t (by assumption)).symm | exact (bI_f (by assumption)).symm | exact (bI_f (fun z => z (by assumption))).symm | (rw [if_pos h70]; done) | (rw [if_pos h70]; rfl) | (simp only [if_pos h70]; done) | (simp only [if_pos h70]; rfl)) ?_
                              exact hJ69 _ _ _ (by first | exact hM | (simp only [if_pos h70]; exact hM)) (by first | exact lv_sub hl [0, 1, 2, 3, 4, 5, 6, 7, 8, 9, 10, 11, 12, 13, 14, 15] rfl | (simp only [if_pos h70]; exact lv_sub hl [0, 1, 2, 3, 4, 5, 6, 7, 8, 9, 10, 11, 12, 13, 14, 15] rfl))
                          intro H locs ls hM hl
                          refine lv_iload hx hb d_Mo_partAll_486 (lv_at hl 13 rfl) ?_
                          have hJ71 : ∀ (H : Heap) (locs : List Loc) (ls : Array Slot), MO D cT ad (upd (upd (upd (upd (upd (upd I 28 (iI (A 0))) 29 (iI (A 1))) 30 (iI (A 2))) 31 (iI (A 3))) 32 (iI ((A 4) + 1))) 27 (nI Wp.length)) J3 (va_up a 26 f2) g3 s.heap H locs → lv_has ls 17 [(0, .ref (ad 46)), (1, .int (nI b)), (3, .int (iI (e1 0))), (4, .int (iI (e1 1))), (5, .int (iI (e1 2))), (6, .int (iI (e1 3))), (7, .int (iI (e1 4))), (8, .int (iI (e1 5))), (9, .int (iI (e1 6))), (10, .int (iI ((e1 0) + (((e1 3) - (e1 0)) / 2)))), (11, .int (iI ((e1 1) + (((e1 4) - (e1 1)) / 2)))), (12, .int (iI ((e1 2) + (((e1 5) - (e1 2)) / 2)))), (13, .int (nI p9)), (14, .int (bI ((p9 % 2) = 1))), (15, .int (bI ((2 * (p9 / 2 % 2)) = 2))), (16, .int (bI ((4 * (p9 / 4 % 2)) = 4)))] → W p l e (rmOf 4 123) s m args below meth c H locs 0 0 Q (F0 m 498 ls [.int (iI (if (p9 % 2) = 1 then e1 3 else (e1 0) + (((e1 3) - (e1 0)) / 2))), .int (iI (if (4 * (p9 / 4 % 2)) = 4 then ((e1 2) + (((e1 5) - (e1 2)) / 2)) + 1 else e1 2)), .int (iI (if (2 * (p9 / 2 % 2)) = 2 then ((e1 1) + (((e1 4) - (e1 1)) / 2)) + 1 else e1 1)), .int (iI (if (p9 % 2) = 1 then ((e1 0) + (((e1 3) - (e1 0)) / 2)) + 1 else e1 0)), .ref (ad 46)]) := ?_
                          · skip
                            refine bz_eq (tgt := 496) hx hb d_Mo_partAll_488 (by decide) (fun h72 => ?_) (fun h72 => ?_)
                            · skip
                              refine lv_iload hx hb d_Mo_partAll_496 (lv_at hl 9 rfl) ?_
                              refine topi_eq (show (iI ((e1 0) + (((e1 3) - (e1 0)) / 2)) : Int32) = iI (if (p9 % 2) = 1 then e1 3 else (e1 0) + (((e1 3) - (e1 0)) / 2)) by first | rfl | exact (bI_t (by assumption)).symm | exact (bI_f (by assumption)).symm | exact (bI_f (fun z => z (by assumption))).symm | (rw [if_neg h72]; done) | (rw [if_neg h72]; rfl) | (simp only [if_neg h72]; done) | (simp only [if_neg h72]; rfl)) ?_
                              exact hJ71 _ _ _ (by first | exact hM | (simp only [if_neg h72]; exact hM)) (by first | exact lv_sub hl [0, 1, 2, 3, 4, 5, 6, 7, 8, 9, 10, 11, 12, 13, 14, 15] rfl | (simp only [if_neg h72]; exact lv_sub hl [0, 1, 2, 3, 4, 5, 6, 7, 8, 9, 10, 11, 12, 13, 14, 15] rfl))
                            · skip
                              refine lv_iload hx hb d_Mo_partAll_491 (lv_at hl 5 rfl) ?_
                              refine lv_goto (tgt := 498) hx hb d_Mo_partAll_493 (by decide) ?_
                              refine topi_eq (show (iI (e1 3) : Int32) = iI (if (p9 % 2) = 1 then e1 3 else (e1 0) + (((e1 3) - (e1 0)) / 2)) by first | rfl | exact (bI_t (by assumption)).symm | exact (bI_f (by assumption)).symm | exact (bI_f (fun z => z (by assumption))).symm | (rw [if_pos h72]; done) | (rw [if_pos h72]; rfl) | (simp only [if_pos h72]; done) | (simp only [if_pos h72]; rfl)) ?_
                              exact hJ71 _ _ _ (by first | exact hM | (simp only [if_pos h72]; exact hM)) (by first | exact lv_sub hl [0, 1, 2, 3, 4, 5, 6, 7, 8, 9, 10, 11, 12, 13, 14, 15] rfl | (simp only [if_pos h72]; exact lv_sub hl [0, 1, 2, 3, 4, 5, 6, 7, 8, 9, 10, 11, 12, 13, 14, 15] rfl))
                          intro H locs ls hM hl
                          refine lv_iload hx hb d_Mo_partAll_498 (lv_at hl 14 rfl) ?_
                          have hJ73 : ∀ (H : Heap) (locs : List Loc) (ls : Array Slot), MO D cT ad (upd (upd (upd (upd (upd (upd I 28 (iI (A 0))) 29 (iI (A 1))) 30 (iI (A 2))) 31 (iI (A 3))) 32 (iI ((A 4) + 1))) 27 (nI Wp.length)) J3 (va_up a 26 f2) g3 s.heap H locs → lv_has ls 17 [(0, .ref (ad 46)), (1, .int (nI b)), (3, .int (iI (e1 0))), (4, .int (iI (e1 1))), (5, .int (iI (e1 2))), (6, .int (iI (e1 3))), (7, .int (iI (e1 4))), (8, .int (iI (e1 5))), (9, .int (iI (e1 6))), (10, .int (iI ((e1 0) + (((e1 3) - (e1 0)) / 2)))), (11, .int (iI ((e1 1) + (((e1 4) - (e1 1)) / 2)))), (12, .int (iI ((e1 2) + (((e1 5) - (e1 2)) / 2)))), (13, .int (nI p9)), (14, .int (bI ((p9 % 2) = 1))), (15, .int (bI ((2 * (p9 / 2 % 2)) = 2))), (16, .int (bI ((4 * (p9 / 4 % 2)) = 4)))] → W p l e (rmOf 4 123) s m args below meth c H locs 0 0 Q (F0 m 510 ls [.int (iI (if (2 * (p9 / 2 % 2)) = 2 then e1 4 else (e1 1) + (((e1 4) - (e1 1)) / 2))), .int (iI (if (p9 % 2) = 1 then e1 3 else (e1 0) + (((e1 3) - (e1 0)) / 2))), .int (iI (if (4 * (p9 / 4 % 2)) = 4 then ((e1 2) + (((e1 5) - (e1 2)) / 2)) + 1 else e1 2)), .int (iI (if (2 * (p9 / 2 % 2)) = 2 then ((e1 1) + (((e1 4) - (e1 1)) / 2)) + 1 else e1 1)), .int (iI (if (p9 % 2) = 1 then ((e1 0) + (((e1 3) - (e1 0)) / 2)) + 1 else e1 0)), .ref (ad 46)]) := ?_
                          · skip
                            refine bz_eq (tgt := 508) hx hb d_Mo_partAll_500 (by decide) (fun h74 => ?_) (fun h74 => ?_)
                            · skip
                              refine lv_iload hx hb d_Mo_partAll_508 (lv_at hl 10 rfl) ?_
                              refine topi_eq (show (iI ((e1 1) + (((e1 4) - (e1 1)) / 2)) : Int32) = iI (if (2 * (p9 / 2 % 2)) = 2 then e1 4 else (e1 1) + (((e1 4) - (e1 1)) / 2)) by first | rfl | exact (bI_t (by assumption)).symm | exact (bI_f (by assumption)).symm | exact (bI_f (fun z => z (by assumption))).symm | (rw [if_neg h74]; done) | (rw [if_neg h74]; rfl) | (simp only [if_neg h74]; done) | (simp only [if_neg h74]; rfl)) ?_
                              exact hJ73 _ _ _ (by first | exact hM | (simp only [if_neg h74]; exact hM)) (by first | exact lv_sub hl [0, 1, 2, 3, 4, 5, 6, 7, 8, 9, 10, 11, 12, 13, 14, 15] rfl | (simp only [if_neg h74]; exact lv_sub hl [0, 1, 2, 3, 4, 5, 6, 7, 8, 9, 10, 11, 12, 13, 14, 15] rfl))
                            · skip
                              refine lv_iload hx hb d_Mo_partAll_503 (lv_at hl 6 rfl) ?_
                              refine lv_goto (tgt := 510) hx hb d_Mo_partAll_505 (by decide) ?_
                              refine topi_eq (show (iI (e1 4) : Int32) = iI (if (2 * (p9 / 2 % 2)) = 2 then e1 4 else (e1 1) + (((e1 4) - (e1 1)) / 2)) by first | rfl | exact (bI_t (by assumption)).symm | exact (bI_f (by assumption)).symm | exact (bI_f (fun z => z (by assumption))).symm | (rw [if_pos h74]; done) | (rw [if_pos h74]; rfl) | (simp only [if_pos h74]; done) | (simp only [if_pos h74]; rfl)) ?_
                              exact hJ73 _ _ _ (by first | exact hM | (simp only [if_pos h74]; exact hM)) (by first | exact lv_sub hl [0, 1, 2, 3, 4, 5, 6, 7, 8, 9, 10, 11, 12, 13, 14, 15] rfl | (simp only [if_pos h74]; exact lv_sub hl [0, 1, 2, 3, 4, 5, 6, 7, 8, 9, 10, 11, 12, 13, 14, 15] rfl))
                          intro H locs ls hM hl
                          refine lv_iload hx hb d_Mo_partAll_510 (lv_at hl 15 rfl) ?_
                          have hJ75 : ∀ (H : Heap) (locs : List Loc) (ls : Array Slot), MO D cT ad (upd (upd (upd (upd (upd (upd I 28 (iI (A 0))) 29 (iI (A 1))) 30 (iI (A 2))) 31 (iI (A 3))) 32 (iI ((A 4) + 1))) 27 (nI Wp.length)) J3 (va_up a 26 f2) g3 s.heap H locs → lv_has ls 17 [(0, .ref (ad 46)), (1, .int (nI b)), (3, .int (iI (e1 0))), (4, .int (iI (e1 1))), (5, .int (iI (e1 2))), (6, .int (iI (e1 3))), (7, .int (iI (e1 4))), (8, .int (iI (e1 5))), (9, .int (iI (e1 6))), (10, .int (iI ((e1 0) + (((e1 3) - (e1 0)) / 2)))), (11, .int (iI ((e1 1) + (((e1 4) - (e1 1)) / 2)))), (12, .int (iI ((e1 2) + (((e1 5) - (e1 2)) / 2)))), (13, .int (nI p9)), (14, .int (bI ((p9 % 2) = 1))), (15, .int (bI ((2 * (p9 / 2 % 2)) = 2))), (16, .int (bI ((4 * (p9 / 4 % 2)) = 4)))] → W p l e (rmOf 4 123) s m args below meth c H locs 0 0 Q (F0 m 522 ls [.int (iI (if (4 * (p9 / 4 % 2)) = 4 then e1 5 else (e1 2) + (((e1 5) - (e1 2)) / 2))), .int (iI (if (2 * (p9 / 2 % 2)) = 2 then e1 4 else (e1 1) + (((e1 4) - (e1 1)) / 2))), .int (iI (if (p9 % 2) = 1 then e1 3 else (e1 0) + (((e1 3) - (e1 0)) / 2))), .int (iI (if (4 * (p9 / 4 % 2)) = 4 then ((e1 2) + (((e1 5) - (e1 2)) / 2)) + 1 else e1 2)), .int (iI (if (2 * (p9 / 2 % 2)) = 2 then ((e1 1) + (((e1 4) - (e1 1)) / 2)) + 1 else e1 1)), .int (iI (if (p9 % 2) = 1 then ((e1 0) + (((e1 3) - (e1 0)) / 2)) + 1 else e1 0)), .ref (ad 46)]) := ?_
                          · skip
                            refine bz_eq (tgt := 520) hx hb d_Mo_partAll_512 (by decide) (fun h76 => ?_) (fun h76 => ?_)
                            · skip
                              refine lv_iload hx hb d_Mo_partAll_520 (lv_at hl 11 rfl) ?_
                              refine topi_eq (show (iI ((e1 2) + (((e1 5) - (e1 2)) / 2)) : Int32) = iI (if (4 * (p9 / 4 % 2)) = 4 then e1 5 else (e1 2) + (((e1 5) - (e1 2)) / 2)) by first | rfl | exact (bI_t (by assumption)).symm | exact (bI_f (by assumption)).symm | exact (bI_f (fun z => z (by assumption))).symm | (rw [if_neg h76]; done) | (rw [if_neg h76]; rfl) | (simp only [if_neg h76]; done) | (simp only [if_neg h76]; rfl)) ?_
                              exact hJ75 _ _ _ (by first | exact hM | (simp only [if_neg h76]; exact hM)) (by first | exact lv_sub hl [0, 1, 2, 3, 4, 5, 6, 7, 8, 9, 10, 11, 12, 13, 14, 15] rfl | (simp only [if_neg h76]; exact lv_sub hl [0, 1, 2, 3, 4, 5, 6, 7, 8, 9, 10, 11, 12, 13, 14, 15] rfl))
                            · skip
                              refine lv_iload hx hb d_Mo_partAll_515 (lv_at hl 7 rfl) ?_
                              refine lv_goto (tgt := 522) hx hb d_Mo_partAll_517 (by decide) ?_
                              refine topi_eq (show (iI (e1 5) : Int32) = iI (if (4 * (p9 / 4 % 2)) = 4 then e1 5 else (e1 2) + (((e1 5) - (e1 2)) / 2)) by first | rfl | exact (bI_t (by assumption)).symm | exact (bI_f (by assumption)).symm | exact (bI_f (fun z => z (by assumption))).symm | (rw [if_pos h76]; done) | (rw [if_pos h76]; rfl) | (simp only [if_pos h76]; done) | (simp only [if_pos h76]; rfl)) ?_
                              exact hJ75 _ _ _ (by first | exact hM | (simp only [if_pos h76]; exact hM)) (by first | exact lv_sub hl [0, 1, 2, 3, 4, 5, 6, 7, 8, 9, 10, 11, 12, 13, 14, 15] rfl | (simp only [if_pos h76]; exact lv_sub hl [0, 1, 2, 3, 4, 5, 6, 7, 8, 9, 10, 11, 12, 13, 14, 15] rfl))
                          intro H locs ls hM hl
                          refine lv_iload hx hb d_Mo_partAll_522 (lv_at hl 8 rfl) ?_
                          refine lv_iconst (v := 1) hx hb d_Mo_partAll_524 (by decide) ?_
                          refine lv_iadd hx hb d_Mo_partAll_525 ?_
                          refine topi_eq (iI_add (e1 6) 1) ?_
                          refine mo_callv (np := 7) hC hK hM (c_Mo_puts l D cT ad (upd (upd (upd (upd (upd (upd I 28 (iI (A 0))) 29 (iI (A 1))) 30 (iI (A 2))) 31 (iI (A 3))) 32 (iI ((A 4) + 1))) 27 (nI Wp.length)) J3 (va_up a 26 f2) g3  (en7 (if (p9 % 2) = 1 then ((e1 0) + (((e1 3) - (e1 0)) / 2)) + 1 else e1 0) (if (2 * (p9 / 2 % 2)) = 2 then ((e1 1) + (((e1 4) - (e1 1)) / 2)) + 1 else e1 1) (if (4 * (p9 / 4 % 2)) = 4 then ((e1 2) + (((e1 5) - (e1 2)) / 2)) + 1 else e1 2) (if (p9 % 2) = 1 then e1 3 else (e1 0) + (((e1 3) - (e1 0)) / 2)) (if (2 * (p9 / 2 % 2)) = 2 then e1 4 else (e1 1) + (((e1 4) - (e1 1)) / 2)) (if (4 * (p9 / 4 % 2)) = 4 then e1 5 else (e1 2) + (((e1 5) - (e1 2)) / 2)) ((e1 6) + 1)) Wp.length rfl (by omega)) rfl ⟨wl_Mo_243, wi_Mo_puts, ws_Mo_puts, wc_Mo_puts, wn_Mo⟩ ⟨by decide, by decide, by decide +kernel⟩ ⟨Nat.le_of_ble_eq_true rfl, Nat.le_of_ble_eq_true rfl⟩ hl.1 rfl (rest := []) rfl (Nat.le_of_ble_eq_true rfl) ⟨Nat.zero_le _, Nat.zero_le _⟩ d_Mo_partAll_526 (fun I77 J77 a77 g77 H locs hp77 hM => ?_)
                          cases hp77
                          rw [upd_upd, bx_uu] at hM
                          refine lv_iinc (v := nI (p9 + 1)) (lv' := [(13, .int (nI (p9 + 1))), (0, .ref (ad 46)), (1, .int (nI b)), (3, .int (iI (e1 0))), (4, .int (iI (e1 1))), (5, .int (iI (e1 2))), (6, .int (iI (e1 3))), (7, .int (iI (e1 4))), (8, .int (iI (e1 5))), (9, .int (iI (e1 6))), (10, .int (iI ((e1 0) + (((e1 3) - (e1 0)) / 2)))), (11, .int (iI ((e1 1) + (((e1 4) - (e1 1)) / 2)))), (12, .int (iI ((e1 2) + (((e1 5) - (e1 2)) / 2)))), (14, .int (bI ((p9 % 2) = 1))), (15, .int (bI ((2 * (p9 / 2 % 2)) = 2))), (16, .int (bI ((4 * (p9 / 4 % 2)) = 4)))]) hx hb d_Mo_partAll_529 hl (k := 12) rfl (nI_add p9 1) (by decide) rfl (fun ls hl => ?_)
                          refine lv_goto (tgt := 357) hx hb d_Mo_partAll_532 (by decide) ?_
                          have hcok : ¬ (p9 % 2 = 1 ∧ e1 0 = e1 3) ∧ ¬ (2 * (p9 / 2 % 2) = 2 ∧ e1 1 = e1 4) ∧ ¬ (4 * (p9 / 4 % 2) = 4 ∧ e1 2 = e1 5) := by omega
                          exact ih357 (p9 + 1) (chd e1 p9 :: Wp) _ _ _ _ (by omega) (by omega) (WR_push hWRp (chd e1 p9)) (⟨chd_ok hv h63 hcok, by rw [show chd e1 p9 6 = e1 6 + 1 from rfl]; omega, hokp⟩) (by simp only [List.length_cons]; omega) (pl_push htp hcok) (hM) (lv_sub hl [1, 2, 3, 4, 5, 6, 7, 8, 9, 10, 11, 12, 0] rfl)
                · skip
                  refine lv_iload_n hx hb d_Mo_partAll_414 rfl (lv_at hl 3 rfl) ?_
                  refine lv_iload hx hb d_Mo_partAll_415 (lv_at hl 6 rfl) ?_
                  refine zc_eq hx hb (e1 0) (e1 3) (by omega) (by omega) (by omega) (by omega) d_Mo_partAll_417 (tgt := 529) (by decide) (fun h78 => ?_) (fun h78 => ?_)
                  · skip
                    refine lv_iinc (v := nI (p9 + 1)) (lv' := [(13, .int (nI (p9 + 1))), (16, .int (bI ((4 * (p9 / 4 % 2)) = 4))), (0, .ref (ad 46)), (1, .int (nI b)), (3, .int (iI (e1 0))), (4, .int (iI (e1 1))), (5, .int (iI (e1 2))), (6, .int (iI (e1 3))), (7, .int (iI (e1 4))), (8, .int (iI (e1 5))), (9, .int (iI (e1 6))), (10, .int (iI ((e1 0) + (((e1 3) - (e1 0)) / 2)))), (11, .int (iI ((e1 1) + (((e1 4) - (e1 1)) / 2)))), (12, .int (iI ((e1 2) + (((e1 5) - (e1 2)) / 2)))), (14, .int (bI ((p9 % 2) = 1))), (15, .int (bI ((2 * (p9 / 2 % 2)) = 2)))]) hx hb d_Mo_partAll_529 hl (k := 13) rfl (nI_add p9 1) (by decide) rfl (fun ls hl => ?_)
                    refine lv_goto (tgt := 357) hx hb d_Mo_partAll_532 (by decide) ?_
                    exact ih357 (p9 + 1) Wp _ _ _ _ (by omega) (by omega) (hWRp) (hokp) (by omega) (by rw [csum_n (by omega)]; exact htp) (hM) (lv_sub hl [2, 3, 4, 5, 6, 7, 8, 9, 10, 11, 12, 13, 0] rfl)
                  · skip
                    refine lv_iload hx hb d_Mo_partAll_420 (lv_at hl 15 rfl) ?_
                    refine bz_eq (tgt := 432) hx hb d_Mo_partAll_422 (by decide) (fun h79 => ?_) (fun h79 => ?_)
                    · skip
                      refine lv_iload hx hb d_Mo_partAll_432 (lv_at hl 0 rfl) ?_
                      refine bz_eq (tgt := 444) hx hb d_Mo_partAll_434 (by decide) (fun h80 => ?_) (fun h80 => ?_)
                      · skip
                        refine lv_aload_n hx hb d_Mo_partAll_444 rfl (lv_at hl 1 rfl) ?_
                        refine lv_iload hx hb d_Mo_partAll_445 (lv_at hl 14 rfl) ?_
                        have hJ81 : ∀ (H : Heap) (locs : List Loc) (ls : Array Slot), MO D cT ad (upd (upd (upd (upd (upd (upd I 28 (iI (A 0))) 29 (iI (A 1))) 30 (iI (A 2))) 31 (iI (A 3))) 32 (iI ((A 4) + 1))) 27 (nI Wp.length)) J3 (va_up a 26 f2) g3 s.heap H locs → lv_has ls 17 [(0, .ref (ad 46)), (1, .int (nI b)), (3, .int (iI (e1 0))), (4, .int (iI (e1 1))), (5, .int (iI (e1 2))), (6, .int (iI (e1 3))), (7, .int (iI (e1 4))), (8, .int (iI (e1 5))), (9, .int (iI (e1 6))), (10, .int (iI ((e1 0) + (((e1 3) - (e1 0)) / 2)))), (11, .int (iI ((e1 1) + (((e1 4) - (e1 1)) / 2)))), (12, .int (iI ((e1 2) + (((e1 5) - (e1 2)) / 2)))), (13, .int (nI p9)), (14, .int (bI ((p9 % 2) = 1))), (15, .int (bI ((2 * (p9 / 2 % 2)) = 2))), (16, .int (bI ((4 * (p9 / 4 % 2)) = 4)))] → W p l e (rmOf 4 123) s m args below meth c H locs 0 0 Q (F0 m 458 ls [.int (iI (if (p9 % 2) = 1 then ((e1 0) + (((e1 3) - (e1 0)) / 2)) + 1 else e1 0)), .ref (ad 46)]) := ?_
                        · skip
                          refine bz_eq (tgt := 457) hx hb d_Mo_partAll_447 (by decide) (fun h82 => ?_) (fun h82 => ?_)
                          · skip
                            refine lv_iload_n hx hb d_Mo_partAll_457 rfl (lv_at hl 3 rfl) ?_
                            refine topi_eq (show (iI (e1 0) : Int32) = iI (if (p9 % 2) = 1 then ((e1 0) + (((e1 3) - (e1 0)) / 2)) + 1 else e1 0) by first | rfl | exact (bI_t (by assumption)).symm | exact (bI_f (by assumption)).symm | exact (bI_f (fun z => z (by assumption))).symm | (rw [if_neg h82]; done) | (rw [if_neg h82]; rfl) | (simp only [if_neg h82]; done) | (simp only [if_neg h82]; rfl)) ?_
                            exact hJ81 _ _ _ (by first | exact hM | (simp only [if_neg h82]; exact hM)) (by first | exact lv_sub hl [1, 2, 3, 4, 5, 6, 7, 8, 9, 10, 11, 12, 13, 14, 15, 0] rfl | (simp only [if_neg h82]; exact lv_sub hl [1, 2, 3, 4, 5, 6, 7, 8, 9, 10, 11, 12, 13, 14, 15, 0] rfl))
                          · skip
                            refine lv_iload hx hb d_Mo_partAll_450 (lv_at hl 10 rfl) ?_
                            refine lv_iconst (v := 1) hx hb d_Mo_partAll_452 (by decide) ?_
                            refine lv_iadd hx hb d_Mo_partAll_453 ?_
                            refine topi_eq (iI_add ((e1 0) + (((e1 3) - (e1 0)) / 2)) 1) ?_
                            refine lv_goto (tgt := 458) hx hb d_Mo_partAll_454 (by decide) ?_
                            refine topi_eq (show (iI (((e1 0) + (((e1 3) - (e1 0)) / 2)) + 1) : Int32) = iI (if (p9 % 2) = 1 then ((e1 0) + (((e1 3) - (e1 0)) / 2)) + 1 else e1 0) by first | rfl | exact (bI_t (by assumption)).symm | exact (bI_f (by assumption)).symm | exact (bI_f (fun z => z (by assumption))).symm | (rw [if_pos h82]; done) | (rw [if_pos h82]; rfl) | (simp only [if_pos h82]; done) | (simp only [if_pos h82]; rfl)) ?_
                            exact hJ81 _ _ _ (by first | exact hM | (simp only [if_pos h82]; exact hM)) (by first | exact lv_sub hl [1, 2, 3, 4, 5, 6, 7, 8, 9, 10, 11, 12, 13, 14, 15, 0] rfl | (simp only [if_pos h82]; exact lv_sub hl [1, 2, 3, 4, 5, 6, 7, 8, 9, 10, 11, 12, 13, 14, 15, 0] rfl))
                        intro H locs ls hM hl
                        refine lv_iload hx hb d_Mo_partAll_458 (lv_at hl 14 rfl) ?_
                        have hJ83 : ∀ (H : Heap) (locs : List Loc) (ls : Array Slot), MO D cT ad (upd (upd (upd (upd (upd (upd I 28 (iI (A 0))) 29 (iI (A 1))) 30 (iI (A 2))) 31 (iI (A 3))) 32 (iI ((A 4) + 1))) 27 (nI Wp.length)) J3 (va_up a 26 f2) g3 s.heap H locs → lv_has ls 17 [(0, .ref (ad 46)), (1, .int (nI b)), (3, .int (iI (e1 0))), (4, .int (iI (e1 1))), (5, .int (iI (e1 2))), (6, .int (iI (e1 3))), (7, .int (iI (e1 4))), (8, .int (iI (e1 5))), (9, .int (iI (e1 6))), (10, .int (iI ((e1 0) + (((e1 3) - (e1 0)) / 2)))), (11, .int (iI ((e1 1) + (((e1 4) - (e1 1)) / 2)))), (12, .int (iI ((e1 2) + (((e1 5) - (e1 2)) / 2)))), (13, .int (nI p9)), (14, .int (bI ((p9 % 2) = 1))), (15, .int (bI ((2 * (p9 / 2 % 2)) = 2))), (16, .int (bI ((4 * (p9 / 4 % 2)) = 4)))] → W p l e (rmOf 4 123) s m args below meth c H locs 0 0 Q (F0 m 472 ls [.int (iI (if (2 * (p9 / 2 % 2)) = 2 then ((e1 1) + (((e1 4) - (e1 1)) / 2)) + 1 else e1 1)), .int (iI (if (p9 % 2) = 1 then ((e1 0) + (((e1 3) - (e1 0)) / 2)) + 1 else e1 0)), .ref (ad 46)]) := ?_
                        · skip
                          refine bz_eq (tgt := 470) hx hb d_Mo_partAll_460 (by decide) (fun h84 => ?_) (fun h84 => ?_)
                          · skip
                            refine lv_iload hx hb d_Mo_partAll_470 (lv_at hl 3 rfl) ?_
                            refine topi_eq (show (iI (e1 1) : Int32) = iI (if (2 * (p9 / 2 % 2)) = 2 then ((e1 1) + (((e1 4) - (e1 1)) / 2)) + 1 else e1 1) by first | rfl | exact (bI_t (by assumption)).symm | exact (bI_f (by assumption)).symm | exact (bI_f (fun z => z (by assumption))).symm | (rw [if_neg h84]; done) | (rw [if_neg h84]; rfl) | (simp only [if_neg h84]; done) | (simp only [if_neg h84]; rfl)) ?_
                            exact hJ83 _ _ _ (by first | exact hM | (simp only [if_neg h84]; exact hM)) (by first | exact lv_sub hl [0, 1, 2, 3, 4, 5, 6, 7, 8, 9, 10, 11, 12, 13, 14, 15] rfl | (simp only [if_neg h84]; exact lv_sub hl [0, 1, 2, 3, 4, 5, 6, 7, 8, 9, 10, 11, 12, 13, 14, 15] rfl))
                          · skip
                            refine lv_iload hx hb d_Mo_partAll_463 (lv_at hl 10 rfl) ?_
                            refine lv_iconst (v := 1) hx hb d_Mo_partAll_465 (by decide) ?_
                            refine lv_iadd hx hb d_Mo_partAll_466 ?_
                            refine topi_eq (iI_add ((e1 1) + (((e1 4) - (e1 1)) / 2)) 1) ?_
                            refine lv_goto (tgt := 472) hx hb d_Mo_partAll_467 (by decide) ?_
                            refine topi_eq (show (iI (((e1 1) + (((e1 4) - (e1 1)) / 2)) + 1) : Int32) = iI (if (2 * (p9 / 2 % 2)) = 2 then ((e1 1) + (((e1 4) - (e1 1)) / 2)) + 1 else e1 1) by first | rfl | exact (bI_t (by assumption)).symm | exact (bI_f (by assumption)).symm | exact (bI_f (fun z => z (by assumption))).symm | (rw [if_pos h84]; done) | (rw [if_pos h84]; rfl) | (simp only [if_pos h84]; done) | (simp only [if_pos h84]; rfl)) ?_
                            exact hJ83 _ _ _ (by first | exact hM | (simp only [if_pos h84]; exact hM)) (by first | exact lv_sub hl [0, 1, 2, 3, 4, 5, 6, 7, 8, 9, 10, 11, 12, 13, 14, 15] rfl | (simp only [if_pos h84]; exact lv_sub hl [0, 1, 2, 3, 4, 5, 6, 7, 8, 9, 10, 11, 12, 13, 14, 15] rfl))
                        intro H locs ls hM hl
                        refine lv_iload hx hb d_Mo_partAll_472 (lv_at hl 15 rfl) ?_
                        have hJ85 : ∀ (H : Heap) (locs : List Loc) (ls : Array Slot), MO D cT ad (upd (upd (upd (upd (upd (upd I 28 (iI (A 0))) 29 (iI (A 1))) 30 (iI (A 2))) 31 (iI (A 3))) 32 (iI ((A 4) + 1))) 27 (nI Wp.length)) J3 (va_up a 26 f2) g3 s.heap H locs → lv_has ls 17 [(0, .ref (ad 46)), (1, .int (nI b)), (3, .int (iI (e1 0))), (4, .int (iI (e1 1))), (5, .int (iI (e1 2))), (6, .int (iI (e1 3))), (7, .int (iI (e1 4))), (8, .int (iI (e1 5))), (9, .int (iI (e1 6))), (10, .int (iI ((e1 0) + (((e1 3) - (e1 0)) / 2)))), (11, .int (iI ((e1 1) + (((e1 4) - (e1 1)) / 2)))), (12, .int (iI ((e1 2) + (((e1 5) - (e1 2)) / 2)))), (13, .int (nI p9)), (14, .int (bI ((p9 % 2) = 1))), (15, .int (bI ((2 * (p9 / 2 % 2)) = 2))), (16, .int (bI ((4 * (p9 / 4 % 2)) = 4)))] → W p l e (rmOf 4 123) s m args below meth c H locs 0 0 Q (F0 m 486 ls [.int (iI (if (4 * (p9 / 4 % 2)) = 4 then ((e1 2) + (((e1 5) - (e1 2)) / 2)) + 1 else e1 2)), .int (iI (if (2 * (p9 / 2 % 2)) = 2 then ((e1 1) + (((e1 4) - (e1 1)) / 2)) + 1 else e1 1)), .int (iI (if (p9 % 2) = 1 then ((e1 0) + (((e1 3) - (e1 0)) / 2)) + 1 else e1 0)), .ref (ad 46)]) := ?_
                        · skip
                          refine bz_eq (tgt := 484) hx hb d_Mo_partAll_474 (by decide) (fun h86 => ?_) (fun h86 => ?_)
                          · skip
                            refine lv_iload hx hb d_Mo_partAll_484 (lv_at hl 4 rfl) ?_
                            refine topi_eq (show (iI (e1 2) : Int32) = iI (if (4 * (p9 / 4 % 2)) = 4 then ((e1 2) + (((e1 5) - (e1 2)) / 2)) + 1 else e1 2) by first | rfl | exact (bI_t (by assumption)).symm | exact (bI_f (by assumption)).symm | exact (bI_f (fun z => z (by assumption))).symm | (rw [if_neg h86]; done) | (rw [if_neg h86]; rfl) | (simp only [if_neg h86]; done) | (simp only [if_neg h86]; rfl)) ?_
                            exact hJ85 _ _ _ (by first | exact hM | (simp only [if_neg h86]; exact hM)) (by first | exact lv_sub hl [0, 1, 2, 3, 4, 5, 6, 7, 8, 9, 10, 11, 12, 13, 14, 15] rfl | (simp only [if_neg h86]; exact lv_sub hl [0, 1, 2, 3, 4, 5, 6, 7, 8, 9, 10, 11, 12, 13, 14, 15] rfl))
                          · skip
                            refine lv_iload hx hb d_Mo_partAll_477 (lv_at hl 11 rfl) ?_
                            refine lv_iconst (v := 1) hx hb d_Mo_partAll_479 (by decide) ?_
                            refine lv_iadd hx hb d_Mo_partAll_480 ?_
                            refine topi_eq (iI_add ((e1 2) + (((e1 5) - (e1 2)) / 2)) 1) ?_
                            refine lv_goto (tgt := 486) hx hb d_Mo_partAll_481 (by decide) ?_
                            refine topi_eq (show (iI (((e1 2) + (((e1 5) - (e1 2)) / 2)) + 1) : Int32) = iI (if (4 * (p9 / 4 % 2)) = 4 then ((e1 2) + (((e1 5) - (e1 2)) / 2)) + 1 else e1 2) by first | rfl | exact (bI_t (by assumption)).symm | exact (bI_f (by assumption)).symm | exact (bI_f (fun z => z (by assumption))).symm | (rw [if_pos h86]; done) | (rw [if_pos h86]; rfl) | (simp only [if_pos h86]; done) | (simp only [if_pos h86]; rfl)) ?_
                            exact hJ85 _ _ _ (by first | exact hM | (simp only [if_pos h86]; exact hM)) (by first | exact lv_sub hl [0, 1, 2, 3, 4, 5, 6, 7, 8, 9, 10, 11, 12, 13, 14, 15] rfl | (simp only [if_pos h86]; exact lv_sub hl [0, 1, 2, 3, 4, 5, 6, 7, 8, 9, 10, 11, 12, 13, 14, 15] rfl))
                        intro H locs ls hM hl
                        refine lv_iload hx hb d_Mo_partAll_486 (lv_at hl 13 rfl) ?_
                        have hJ87 : ∀ (H : Heap) (locs : List Loc) (ls : Array Slot), MO D cT ad (upd (upd (upd (upd (upd (upd I 28 (iI (A 0))) 29 (iI (A 1))) 30 (iI (A 2))) 31 (iI (A 3))) 32 (iI ((A 4) + 1))) 27 (nI Wp.length)) J3 (va_up a 26 f2) g3 s.heap H locs → lv_has ls 17 [(0, .ref (ad 46)), (1, .int (nI b)), (3, .int (iI (e1 0))), (4, .int (iI (e1 1))), (5, .int (iI (e1 2))), (6, .int (iI (e1 3))), (7, .int (iI (e1 4))), (8, .int (iI (e1 5))), (9, .int (iI (e1 6))), (10, .int (iI ((e1 0) + (((e1 3) - (e1 0)) / 2)))), (11, .int (iI ((e1 1) + (((e1 4) - (e1 1)) / 2)))), (12, .int (iI ((e1 2) + (((e1 5) - (e1 2)) / 2)))), (13, .int (nI p9)), (14, .int (bI ((p9 % 2) = 1))), (15, .int (bI ((2 * (p9 / 2 % 2)) = 2))), (16, .int (bI ((4 * (p9 / 4 % 2)) = 4)))] → W p l e (rmOf 4 123) s m args below meth c H locs 0 0 Q (F0 m 498 ls [.int (iI (if (p9 % 2) = 1 then e1 3 else (e1 0) + (((e1 3) - (e1 0)) / 2))), .int (iI (if (4 * (p9 / 4 % 2)) = 4 then ((e1 2) + (((e1 5) - (e1 2)) / 2)) + 1 else e1 2)), .int (iI (if (2 * (p9 / 2 % 2)) = 2 then ((e1 1) + (((e1 4) - (e1 1)) / 2)) + 1 else e1 1)), .int (iI (if (p9 % 2) = 1 then ((e1 0) + (((e1 3) - (e1 0)) / 2)) + 1 else e1 0)), .ref (ad 46)]) := ?_
                        · skip
                          refine bz_eq (tgt := 496) hx hb d_Mo_partAll_488 (by decide) (fun h88 => ?_) (fun h88 => ?_)
                          · skip
                            refine lv_iload hx hb d_Mo_partAll_496 (lv_at hl 9 rfl) ?_
                            refine topi_eq (show (iI ((e1 0) + (((e1 3) - (e1 0)) / 2)) : Int32) = iI (if (p9 % 2) = 1 then e1 3 else (e1 0) + (((e1 3) - (e1 0)) / 2)) by first | rfl | exact (bI_t (by assumption)).symm | exact (bI_f (by assumption)).symm | exact (bI_f (fun z => z (by assumption))).symm | (rw [if_neg h88]; done) | (rw [if_neg h88]; rfl) | (simp only [if_neg h88]; done) | (simp only [if_neg h88]; rfl)) ?_
                            exact hJ87 _ _ _ (by first | exact hM | (simp only [if_neg h88]; exact hM)) (by first | exact lv_sub hl [0, 1, 2, 3, 4, 5, 6, 7, 8, 9, 10, 11, 12, 13, 14, 15] rfl | (simp only [if_neg h88]; exact lv_sub hl [0, 1, 2, 3, 4, 5, 6, 7, 8, 9, 10, 11, 12, 13, 14, 15] rfl))
                          · skip
                            refine lv_iload hx hb d_Mo_partAll_491 (lv_at hl 5 rfl) ?_
                            refine lv_goto (tgt := 498) hx hb d_Mo_partAll_493 (by decide) ?_
                            refine topi_eq (show (iI (e1 3) : Int32) = iI (if (p9 % 2) = 1 then e1 3 else (e1 0) + (((e1 3) - (e1 0)) / 2)) by first | rfl | exact (bI_t (by assumption)).symm | exact (bI_f (by assumption)).symm | exact (bI_f (fun z => z (by assumption))).symm | (rw [if_pos h88]; done) | (rw [if_pos h88]; rfl) | (simp only [if_pos h88]; done) | (simp only [if_pos h88]; rfl)) ?_
                            exact hJ87 _ _ _ (by first | exact hM | (simp only [if_pos h88]; exact hM)) (by first | exact lv_sub hl [0, 1, 2, 3, 4, 5, 6, 7, 8, 9, 10, 11, 12, 13, 14, 15] rfl | (simp only [if_pos h88]; exact lv_sub hl [0, 1, 2, 3, 4, 5, 6, 7, 8, 9, 10, 11, 12, 13, 14, 15] rfl))
                        intro H locs ls hM hl
                        refine lv_iload hx hb d_Mo_partAll_498 (lv_at hl 14 rfl) ?_
                        have hJ89 : ∀ (H : Heap) (locs : List Loc) (ls : Array Slot), MO D cT ad (upd (upd (upd (upd (upd (upd I 28 (iI (A 0))) 29 (iI (A 1))) 30 (iI (A 2))) 31 (iI (A 3))) 32 (iI ((A 4) + 1))) 27 (nI Wp.length)) J3 (va_up a 26 f2) g3 s.heap H locs → lv_has ls 17 [(0, .ref (ad 46)), (1, .int (nI b)), (3, .int (iI (e1 0))), (4, .int (iI (e1 1))), (5, .int (iI (e1 2))), (6, .int (iI (e1 3))), (7, .int (iI (e1 4))), (8, .int (iI (e1 5))), (9, .int (iI (e1 6))), (10, .int (iI ((e1 0) + (((e1 3) - (e1 0)) / 2)))), (11, .int (iI ((e1 1) + (((e1 4) - (e1 1)) / 2)))), (12, .int (iI ((e1 2) + (((e1 5) - (e1 2)) / 2)))), (13, .int (nI p9)), (14, .int (bI ((p9 % 2) = 1))), (15, .int (bI ((2 * (p9 / 2 % 2)) = 2))), (16, .int (bI ((4 * (p9 / 4 % 2)) = 4)))] → W p l e (rmOf 4 123) s m args below meth c H locs 0 0 Q (F0 m 510 ls [.int (iI (if (2 * (p9 / 2 % 2)) = 2 then e1 4 else (e1 1) + (((e1 4) - (e1 1)) / 2))), .int (iI (if (p9 % 2) = 1 then e1 3 else (e1 0) + (((e1 3) - (e1 0)) / 2))), .int (iI (if (4 * (p9 / 4 % 2)) = 4 then ((e1 2) + (((e1 5) - (e1 2)) / 2)) + 1 else e1 2)), .int (iI (if (2 * (p9 / 2 % 2)) = 2 then ((e1 1) + (((e1 4) - (e1 1)) / 2)) + 1 else e1 1)), .int (iI (if (p9 % 2) = 1 then ((e1 0) + (((e1 3) - (e1 0)) / 2)) + 1 else e1 0)), .ref (ad 46)]) := ?_
                        · skip
                          refine bz_eq (tgt := 508) hx hb d_Mo_partAll_500 (by decide) (fun h90 => ?_) (fun h90 => ?_)
                          · skip
                            refine lv_iload hx hb d_Mo_partAll_508 (lv_at hl 10 rfl) ?_
                            refine topi_eq (show (iI ((e1 1) + (((e1 4) - (e1 1)) / 2)) : Int32) = iI (if (2 * (p9 / 2 % 2)) = 2 then e1 4 else (e1 1) + (((e1 4) - (e1 1)) / 2)) by first | rfl | exact (bI_t (by assumption)).symm | exact (bI_f (by assumption)).symm | exact (bI_f (fun z => z (by assumption))).symm | (rw [if_neg h90]; done) | (rw [if_neg h90]; rfl) | (simp only [if_neg h90]; done) | (simp only [if_neg h90]; rfl)) ?_
                            exact hJ89 _ _ _ (by first | exact hM | (simp only [if_neg h90]; exact hM)) (by first | exact lv_sub hl [0, 1, 2, 3, 4, 5, 6, 7, 8, 9, 10, 11, 12, 13, 14, 15] rfl | (simp only [if_neg h90]; exact lv_sub hl [0, 1, 2, 3, 4, 5, 6, 7, 8, 9, 10, 11, 12, 13, 14, 15] rfl))
                          · skip
                            refine lv_iload hx hb d_Mo_partAll_503 (lv_at hl 6 rfl) ?_
                            refine lv_goto (tgt := 510) hx hb d_Mo_partAll_505 (by decide) ?_
                            refine topi_eq (show (iI (e1 4) : Int32) = iI (if (2 * (p9 / 2 % 2)) = 2 then e1 4 else (e1 1) + (((e1 4) - (e1 1)) / 2)) by first | rfl | exact (bI_t (by assumption)).symm | exact (bI_f (by assumption)).symm | exact (bI_f (fun z => z (by assumption))).symm | (rw [if_pos h90]; done) | (rw [if_pos h90]; rfl) | (simp only [if_pos h90]; done) | (simp only [if_pos h90]; rfl)) ?_
                            exact hJ89 _ _ _ (by first | exact hM | (simp only [if_pos h90]; exact hM)) (by first | exact lv_sub hl [0, 1, 2, 3, 4, 5, 6, 7, 8, 9, 10, 11, 12, 13, 14, 15] rfl | (simp only [if_pos h90]; exact lv_sub hl [0, 1, 2, 3, 4, 5, 6, 7, 8, 9, 10, 11, 12, 13, 14, 15] rfl))
                        intro H locs ls hM hl
                        refine lv_iload hx hb d_Mo_partAll_510 (lv_at hl 15 rfl) ?_
                        have hJ91 : ∀ (H : Heap) (locs : List Loc) (ls : Array Slot), MO D cT ad (upd (upd (upd (upd (upd (upd I 28 (iI (A 0))) 29 (iI (A 1))) 30 (iI (A 2))) 31 (iI (A 3))) 32 (iI ((A 4) + 1))) 27 (nI Wp.length)) J3 (va_up a 26 f2) g3 s.heap H locs → lv_has ls 17 [(0, .ref (ad 46)), (1, .int (nI b)), (3, .int (iI (e1 0))), (4, .int (iI (e1 1))), (5, .int (iI (e1 2))), (6, .int (iI (e1 3))), (7, .int (iI (e1 4))), (8, .int (iI (e1 5))), (9, .int (iI (e1 6))), (10, .int (iI ((e1 0) + (((e1 3) - (e1 0)) / 2)))), (11, .int (iI ((e1 1) + (((e1 4) - (e1 1)) / 2)))), (12, .int (iI ((e1 2) + (((e1 5) - (e1 2)) / 2)))), (13, .int (nI p9)), (14, .int (bI ((p9 % 2) = 1))), (15, .int (bI ((2 * (p9 / 2 % 2)) = 2))), (16, .int (bI ((4 * (p9 / 4 % 2)) = 4)))] → W p l e (rmOf 4 123) s m args below meth c H locs 0 0 Q (F0 m 522 ls [.int (iI (if (4 * (p9 / 4 % 2)) = 4 then e1 5 else (e1 2) + (((e1 5) - (e1 2)) / 2))), .int (iI (if (2 * (p9 / 2 % 2)) = 2 then e1 4 else (e1 1) + (((e1 4) - (e1 1)) / 2))), .int (iI (if (p9 % 2) = 1 then e1 3 else (e1 0) + (((e1 3) - (e1 0)) / 2))), .int (iI (if (4 * (p9 / 4 % 2)) = 4 then ((e1 2) + (((e1 5) - (e1 2)) / 2)) + 1 else e1 2)), .int (iI (if (2 * (p9 / 2 % 2)) = 2 then ((e1 1) + (((e1 4) - (e1 1)) / 2)) + 1 else e1 1)), .int (iI (if (p9 % 2) = 1 then ((e1 0) + (((e1 3) - (e1 0)) / 2)) + 1 else e1 0)), .ref (ad 46)]) := ?_
                        · skip
                          refine bz_eq (tgt := 520) hx hb d_Mo_partAll_512 (by decide) (fun h92 => ?_) (fun h92 => ?_)
                          · skip
                            refine lv_iload hx hb d_Mo_partAll_520 (lv_at hl 11 rfl) ?_
                            refine topi_eq (show (iI ((e1 2) + (((e1 5) - (e1 2)) / 2)) : Int32) = iI (if (4 * (p9 / 4 % 2)) = 4 then e1 5 else (e1 2) + (((e1 5) - (e1 2)) / 2)) by first | rfl | exact (bI_t (by assumption)).symm | exact (bI_f (by assumption)).symm | exact (bI_f (fun z => z (by assumption))).symm | (rw [if_neg h92]; done) | (rw [if_neg h92]; rfl) | (simp only [if_neg h92]; done) | (simp only [if_neg h92]; rfl)) ?_
                            exact hJ91 _ _ _ (by first | exact hM | (simp only [if_neg h92]; exact hM)) (by first | exact lv_sub hl [0, 1, 2, 3, 4, 5, 6, 7, 8, 9, 10, 11, 12, 13, 14, 15] rfl | (simp only [if_neg h92]; exact lv_sub hl [0, 1, 2, 3, 4, 5, 6, 7, 8, 9, 10, 11, 12, 13, 14, 15] rfl))
                          · skip
                            refine lv_iload hx hb d_Mo_partAll_515 (lv_at hl 7 rfl) ?_
                            refine lv_goto (tgt := 522) hx hb d_Mo_partAll_517 (by decide) ?_
                            refine topi_eq (show (iI (e1 5) : Int32) = iI (if (4 * (p9 / 4 % 2)) = 4 then e1 5 else (e1 2) + (((e1 5) - (e1 2)) / 2)) by first | rfl | exact (bI_t (by assumption)).symm | exact (bI_f (by assumption)).symm | exact (bI_f (fun z => z (by assumption))).symm | (rw [if_pos h92]; done) | (rw [if_pos h92]; rfl) | (simp only [if_pos h92]; done) | (simp only [if_pos h92]; rfl)) ?_
                            exact hJ91 _ _ _ (by first | exact hM | (simp only [if_pos h92]; exact hM)) (by first | exact lv_sub hl [0, 1, 2, 3, 4, 5, 6, 7, 8, 9, 10, 11, 12, 13, 14, 15] rfl | (simp only [if_pos h92]; exact lv_sub hl [0, 1, 2, 3, 4, 5, 6, 7, 8, 9, 10, 11, 12, 13, 14, 15] rfl))
                        intro H locs ls hM hl
                        refine lv_iload hx hb d_Mo_partAll_522 (lv_at hl 8 rfl) ?_
                        refine lv_iconst (v := 1) hx hb d_Mo_partAll_524 (by decide) ?_
                        refine lv_iadd hx hb d_Mo_partAll_525 ?_
                        refine topi_eq (iI_add (e1 6) 1) ?_
                        refine mo_callv (np := 7) hC hK hM (c_Mo_puts l D cT ad (upd (upd (upd (upd (upd (upd I 28 (iI (A 0))) 29 (iI (A 1))) 30 (iI (A 2))) 31 (iI (A 3))) 32 (iI ((A 4) + 1))) 27 (nI Wp.length)) J3 (va_up a 26 f2) g3  (en7 (if (p9 % 2) = 1 then ((e1 0) + (((e1 3) - (e1 0)) / 2)) + 1 else e1 0) (if (2 * (p9 / 2 % 2)) = 2 then ((e1 1) + (((e1 4) - (e1 1)) / 2)) + 1 else e1 1) (if (4 * (p9 / 4 % 2)) = 4 then ((e1 2) + (((e1 5) - (e1 2)) / 2)) + 1 else e1 2) (if (p9 % 2) = 1 then e1 3 else (e1 0) + (((e1 3) - (e1 0)) / 2)) (if (2 * (p9 / 2 % 2)) = 2 then e1 4 else (e1 1) + (((e1 4) - (e1 1)) / 2)) (if (4 * (p9 / 4 % 2)) = 4 then e1 5 else (e1 2) + (((e1 5) - (e1 2)) / 2)) ((e1 6) + 1)) Wp.length rfl (by omega)) rfl ⟨wl_Mo_243, wi_Mo_puts, ws_Mo_puts, wc_Mo_puts, wn_Mo⟩ ⟨by decide, by decide, by decide +kernel⟩ ⟨Nat.le_of_ble_eq_true rfl, Nat.le_of_ble_eq_true rfl⟩ hl.1 rfl (rest := []) rfl (Nat.le_of_ble_eq_true rfl) ⟨Nat.zero_le _, Nat.zero_le _⟩ d_Mo_partAll_526 (fun I93 J93 a93 g93 H locs hp93 hM => ?_)
                        cases hp93
                        rw [upd_upd, bx_uu] at hM
                        refine lv_iinc (v := nI (p9 + 1)) (lv' := [(13, .int (nI (p9 + 1))), (0, .ref (ad 46)), (1, .int (nI b)), (3, .int (iI (e1 0))), (4, .int (iI (e1 1))), (5, .int (iI (e1 2))), (6, .int (iI (e1 3))), (7, .int (iI (e1 4))), (8, .int (iI (e1 5))), (9, .int (iI (e1 6))), (10, .int (iI ((e1 0) + (((e1 3) - (e1 0)) / 2)))), (11, .int (iI ((e1 1) + (((e1 4) - (e1 1)) / 2)))), (12, .int (iI ((e1 2) + (((e1 5) - (e1 2)) / 2)))), (14, .int (bI ((p9 % 2) = 1))), (15, .int (bI ((2 * (p9 / 2 % 2)) = 2))), (16, .int (bI ((4 * (p9 / 4 % 2)) = 4)))]) hx hb d_Mo_partAll_529 hl (k := 12) rfl (nI_add p9 1) (by decide) rfl (fun ls hl => ?_)
                        refine lv_goto (tgt := 357) hx hb d_Mo_partAll_532 (by decide) ?_
                        have hcok : ¬ (p9 % 2 = 1 ∧ e1 0 = e1 3) ∧ ¬ (2 * (p9 / 2 % 2) = 2 ∧ e1 1 = e1 4) ∧ ¬ (4 * (p9 / 4 % 2) = 4 ∧ e1 2 = e1 5) := by omega
                        exact ih357 (p9 + 1) (chd e1 p9 :: Wp) _ _ _ _ (by omega) (by omega) (WR_push hWRp (chd e1 p9)) (⟨chd_ok hv h63 hcok, by rw [show chd e1 p9 6 = e1 6 + 1 from rfl]; omega, hokp⟩) (by simp only [List.length_cons]; omega) (pl_push htp hcok) (hM) (lv_sub hl [1, 2, 3, 4, 5, 6, 7, 8, 9, 10, 11, 12, 0] rfl)
                      · skip
                        refine lv_iload hx hb d_Mo_partAll_437 (lv_at hl 5 rfl) ?_
                        refine lv_iload hx hb d_Mo_partAll_439 (lv_at hl 8 rfl) ?_
                        refine zc_eq hx hb (e1 2) (e1 5) (by omega) (by omega) (by omega) (by omega) d_Mo_partAll_441 (tgt := 529) (by decide) (fun h94 => ?_) (fun h94 => ?_)
                        · skip
                          refine lv_iinc (v := nI (p9 + 1)) (lv' := [(13, .int (nI (p9 + 1))), (16, .int (bI ((4 * (p9 / 4 % 2)) = 4))), (0, .ref (ad 46)), (1, .int (nI b)), (3, .int (iI (e1 0))), (4, .int (iI (e1 1))), (5, .int (iI (e1 2))), (6, .int (iI (e1 3))), (7, .int (iI (e1 4))), (8, .int (iI (e1 5))), (9, .int (iI (e1 6))), (10, .int (iI ((e1 0) + (((e1 3) - (e1 0)) / 2)))), (11, .int (iI ((e1 1) + (((e1 4) - (e1 1)) / 2)))), (12, .int (iI ((e1 2) + (((e1 5) - (e1 2)) / 2)))), (14, .int (bI ((p9 % 2) = 1))), (15, .int (bI ((2 * (p9 / 2 % 2)) = 2)))]) hx hb d_Mo_partAll_529 hl (k := 13) rfl (nI_add p9 1) (by decide) rfl (fun ls hl => ?_)
                          refine lv_goto (tgt := 357) hx hb d_Mo_partAll_532 (by decide) ?_
                          exact ih357 (p9 + 1) Wp _ _ _ _ (by omega) (by omega) (hWRp) (hokp) (by omega) (by rw [csum_n (by omega)]; exact htp) (hM) (lv_sub hl [2, 3, 4, 5, 6, 7, 8, 9, 10, 11, 12, 13, 0] rfl)
                        · skip
                          refine lv_aload_n hx hb d_Mo_partAll_444 rfl (lv_at hl 1 rfl) ?_
                          refine lv_iload hx hb d_Mo_partAll_445 (lv_at hl 14 rfl) ?_
                          have hJ95 : ∀ (H : Heap) (locs : List Loc) (ls : Array Slot), MO D cT ad (upd (upd (upd (upd (upd (upd I 28 (iI (A 0))) 29 (iI (A 1))) 30 (iI (A 2))) 31 (iI (A 3))) 32 (iI ((A 4) + 1))) 27 (nI Wp.length)) J3 (va_up a 26 f2) g3 s.heap H locs → lv_has ls 17 [(0, .ref (ad 46)), (1, .int (nI b)), (3, .int (iI (e1 0))), (4, .int (iI (e1 1))), (5, .int (iI (e1 2))), (6, .int (iI (e1 3))), (7, .int (iI (e1 4))), (8, .int (iI (e1 5))), (9, .int (iI (e1 6))), (10, .int (iI ((e1 0) + (((e1 3) - (e1 0)) / 2)))), (11, .int (iI ((e1 1) + (((e1 4) - (e1 1)) / 2)))), (12, .int (iI ((e1 2) + (((e1 5) - (e1 2)) / 2)))), (13, .int (nI p9)), (14, .int (bI ((p9 % 2) = 1))), (15, .int (bI ((2 * (p9 / 2 % 2)) = 2))), (16, .int (bI ((4 * (p9 / 4 % 2)) = 4)))] → W p l e (rmOf 4 123) s m args below meth c H locs 0 0 Q (F0 m 458 ls [.int (iI (if (p9 % 2) = 1 then ((e1 0) + (((e1 3) - (e1 0)) / 2)) + 1 else e1 0)), .ref (ad 46)]) := ?_
                          · skip
                            refine bz_eq (tgt := 457) hx hb d_Mo_partAll_447 (by decide) (fun h96 => ?_) (fun h96 => ?_)
                            · skip
                              refine lv_iload_n hx hb d_Mo_partAll_457 rfl (lv_at hl 3 rfl) ?_
                              refine topi_eq (show (iI (e1 0) : Int32) = iI (if (p9 % 2) = 1 then ((e1 0) + (((e1 3) - (e1 0)) / 2)) + 1 else e1 0) by first | rfl | exact (bI_t (by assumption)).symm | exact (bI_f (by assumption)).symm | exact (bI_f (fun z => z (by assumption))).symm | (rw [if_neg h96]; done) | (rw [if_neg h96]; rfl) | (simp only [if_neg h96]; done) | (simp only [if_neg h96]; rfl)) ?_
                              exact hJ95 _ _ _ (by first | exact hM | (simp only [if_neg h96]; exact hM)) (by first | exact lv_sub hl [1, 2, 3, 4, 5, 6, 7, 8, 9, 10, 11, 12, 13, 14, 15, 0] rfl | (simp only [if_neg h96]; exact lv_sub hl [1, 2, 3, 4, 5, 6, 7, 8, 9, 10, 11, 12, 13, 14, 15, 0] rfl))
                            · skip
                              refine lv_iload hx hb d_Mo_partAll_450 (lv_at hl 10 rfl) ?_
                              refine lv_iconst (v := 1) hx hb d_Mo_partAll_452 (by decide) ?_
                              refine lv_iadd hx hb d_Mo_partAll_453 ?_
                              refine topi_eq (iI_add ((e1 0) + (((e1 3) - (e1 0)) / 2)) 1) ?_
                              refine lv_goto (tgt := 458) hx hb d_Mo_partAll_454 (by decide) ?_
                              refine topi_eq (show (iI (((e1 0) + (((e1 3) - (e1 0)) / 2)) + 1) : Int32) = iI (if (p9 % 2) = 1 then ((e1 0) + (((e1 3) - (e1 0)) / 2)) + 1 else e1 0) by first | rfl | exact (bI_t (by assumption)).symm | exact (bI_f (by assumption)).symm | exact (bI_f (fun z => z (by assumption))).symm | (rw [if_pos h96]; done) | (rw [if_pos h96]; rfl) | (simp only [if_pos h96]; done) | (simp only [if_pos h96]; rfl)) ?_
                              exact hJ95 _ _ _ (by first | exact hM | (simp only [if_pos h96]; exact hM)) (by first | exact lv_sub hl [1, 2, 3, 4, 5, 6, 7, 8, 9, 10, 11, 12, 13, 14, 15, 0] rfl | (simp only [if_pos h96]; exact lv_sub hl [1, 2, 3, 4, 5, 6, 7, 8, 9, 10, 11, 12, 13, 14, 15, 0] rfl))
                          intro H locs ls hM hl
                          refine lv_iload hx hb d_Mo_partAll_458 (lv_at hl 14 rfl) ?_
                          have hJ97 : ∀ (H : Heap) (locs : List Loc) (ls : Array Slot), MO D cT ad (upd (upd (upd (upd (upd (upd I 28 (iI (A 0))) 29 (iI (A 1))) 30 (iI (A 2))) 31 (iI (A 3))) 32 (iI ((A 4) + 1))) 27 (nI Wp.length)) J3 (va_up a 26 f2) g3 s.heap H locs → lv_has ls 17 [(0, .ref (ad 46)), (1, .int (nI b)), (3, .int (iI (e1 0))), (4, .int (iI (e1 1))), (5, .int (iI (e1 2))), (6, .int (iI (e1 3))), (7, .int (iI (e1 4))), (8, .int (iI (e1 5))), (9, .int (iI (e1 6))), (10, .int (iI ((e1 0) + (((e1 3) - (e1 0)) / 2)))), (11, .int (iI ((e1 1) + (((e1 4) - (e1 1)) / 2)))), (12, .int (iI ((e1 2) + (((e1 5) - (e1 2)) / 2)))), (13, .int (nI p9)), (14, .int (bI ((p9 % 2) = 1))), (15, .int (bI ((2 * (p9 / 2 % 2)) = 2))), (16, .int (bI ((4 * (p9 / 4 % 2)) = 4)))] → W p l e (rmOf 4 123) s m args below meth c H locs 0 0 Q (F0 m 472 ls [.int (iI (if (2 * (p9 / 2 % 2)) = 2 then ((e1 1) + (((e1 4) - (e1 1)) / 2)) + 1 else e1 1)), .int (iI (if (p9 % 2) = 1 then ((e1 0) + (((e1 3) - (e1 0)) / 2)) + 1 else e1 0)), .ref (ad 46)]) := ?_
                          · skip
                            refine bz_eq (tgt := 470) hx hb d_Mo_partAll_460 (by decide) (fun h98 => ?_) (fun h98 => ?_)
                            · skip
                              refine lv_iload hx hb d_Mo_partAll_470 (lv_at hl 3 rfl) ?_
                              refine topi_eq (show (iI (e1 1) : Int32) = iI (if (2 * (p9 / 2 % 2)) = 2 then ((e1 1) + (((e1 4) - (e1 1)) / 2)) + 1 else e1 1) by first | rfl | exact (bI_t (by assumption)).symm | exact (bI_f (by assumption)).symm | exact (bI_f (fun z => z (by assumption))).symm | (rw [if_neg h98]; done) | (rw [if_neg h98]; rfl) | (simp only [if_neg h98]; done) | (simp only [if_neg h98]; rfl)) ?_
                              exact hJ97 _ _ _ (by first | exact hM | (simp only [if_neg h98]; exact hM)) (by first | exact lv_sub hl [0, 1, 2, 3, 4, 5, 6, 7, 8, 9, 10, 11, 12, 13, 14, 15] rfl | (simp only [if_neg h98]; exact lv_sub hl [0, 1, 2, 3, 4, 5, 6, 7, 8, 9, 10, 11, 12, 13, 14, 15] rfl))
                            · skip
                              refine lv_iload hx hb d_Mo_partAll_463 (lv_at hl 10 rfl) ?_
                              refine lv_iconst (v := 1) hx hb d_Mo_partAll_465 (by decide) ?_
                              refine lv_iadd hx hb d_Mo_partAll_466 ?_
                              refine topi_eq (iI_add ((e1 1) + (((e1 4) - (e1 1)) / 2)) 1) ?_
                              refine lv_goto (tgt := 472) hx hb d_Mo_partAll_467 (by decide) ?_
                              refine topi_eq (show (iI (((e1 1) + (((e1 4) - (e1 1)) / 2)) + 1) : Int32) = iI (if (2 * (p9 / 2 % 2)) = 2 then ((e1 1) + (((e1 4) - (e1 1)) / 2)) + 1 else e1 1) by first | rfl | exact (bI_t (by assumption)).symm | exact (bI_f (by assumption)).symm | exact (bI_f (fun z => z (by assumption))).symm | (rw [if_pos h98]; done) | (rw [if_pos h98]; rfl) | (simp only [if_pos h98]; done) | (simp only [if_pos h98]; rfl)) ?_
                              exact hJ97 _ _ _ (by first | exact hM | (simp only [if_pos h98]; exact hM)) (by first | exact lv_sub hl [0, 1, 2, 3, 4, 5, 6, 7, 8, 9, 10, 11, 12, 13, 14, 15] rfl | (simp only [if_pos h98]; exact lv_sub hl [0, 1, 2, 3, 4, 5, 6, 7, 8, 9, 10, 11, 12, 13, 14, 15] rfl))
                          intro H locs ls hM hl
                          refine lv_iload hx hb d_Mo_partAll_472 (lv_at hl 15 rfl) ?_
                          have hJ99 : ∀ (H : Heap) (locs : List Loc) (ls : Array Slot), MO D cT ad (upd (upd (upd (upd (upd (upd I 28 (iI (A 0))) 29 (iI (A 1))) 30 (iI (A 2))) 31 (iI (A 3))) 32 (iI ((A 4) + 1))) 27 (nI Wp.length)) J3 (va_up a 26 f2) g3 s.heap H locs → lv_has ls 17 [(0, .ref (ad 46)), (1, .int (nI b)), (3, .int (iI (e1 0))), (4, .int (iI (e1 1))), (5, .int (iI (e1 2))), (6, .int (iI (e1 3))), (7, .int (iI (e1 4))), (8, .int (iI (e1 5))), (9, .int (iI (e1 6))), (10, .int (iI ((e1 0) + (((e1 3) - (e1 0)) / 2)))), (11, .int (iI ((e1 1) + (((e1 4) - (e1 1)) / 2)))), (12, .int (iI ((e1 2) + (((e1 5) - (e1 2)) / 2)))), (13, .int (nI p9)), (14, .int (bI ((p9 % 2) = 1))), (15, .int (bI ((2 * (p9 / 2 % 2)) = 2))), (16, .int (bI ((4 * (p9 / 4 % 2)) = 4)))] → W p l e (rmOf 4 123) s m args below meth c H locs 0 0 Q (F0 m 486 ls [.int (iI (if (4 * (p9 / 4 % 2)) = 4 then ((e1 2) + (((e1 5) - (e1 2)) / 2)) + 1 else e1 2)), .int (iI (if (2 * (p9 / 2 % 2)) = 2 then ((e1 1) + (((e1 4) - (e1 1)) / 2)) + 1 else e1 1)), .int (iI (if (p9 % 2) = 1 then ((e1 0) + (((e1 3) - (e1 0)) / 2)) + 1 else e1 0)), .ref (ad 46)]) := ?_
                          · skip
                            refine bz_eq (tgt := 484) hx hb d_Mo_partAll_474 (by decide) (fun h100 => ?_) (fun h100 => ?_)
                            · skip
                              refine lv_iload hx hb d_Mo_partAll_484 (lv_at hl 4 rfl) ?_
                              refine topi_eq (show (iI (e1 2) : Int32) = iI (if (4 * (p9 / 4 % 2)) = 4 then ((e1 2) + (((e1 5) - (e1 2)) / 2)) + 1 else e1 2) by first | rfl | exact (bI_t (by assumption)).symm | exact (bI_f (by assumption)).symm | exact (bI_f (fun z => z (by assumption))).symm | (rw [if_neg h100]; done) | (rw [if_neg h100]; rfl) | (simp only [if_neg h100]; done) | (simp only [if_neg h100]; rfl)) ?_
                              exact hJ99 _ _ _ (by first | exact hM | (simp only [if_neg h100]; exact hM)) (by first | exact lv_sub hl [0, 1, 2, 3, 4, 5, 6, 7, 8, 9, 10, 11, 12, 13, 14, 15] rfl | (simp only [if_neg h100]; exact lv_sub hl [0, 1, 2, 3, 4, 5, 6, 7, 8, 9, 10, 11, 12, 13, 14, 15] rfl))
                            · skip
                              refine lv_iload hx hb d_Mo_partAll_477 (lv_at hl 11 rfl) ?_
                              refine lv_iconst (v := 1) hx hb d_Mo_partAll_479 (by decide) ?_
                              refine lv_iadd hx hb d_Mo_partAll_480 ?_
                              refine topi_eq (iI_add ((e1 2) + (((e1 5) - (e1 2)) / 2)) 1) ?_
                              refine lv_goto (tgt := 486) hx hb d_Mo_partAll_481 (by decide) ?_
                              refine topi_eq (show (iI (((e1 2) + (((e1 5) - (e1 2)) / 2)) + 1) : Int32) = iI (if (4 * (p9 / 4 % 2)) = 4 then ((e1 2) + (((e1 5) - (e1 2)) / 2)) + 1 else e1 2) by first | rfl | exact (bI_t (by assumption)).symm | exact (bI_f (by assumption)).symm | exact (bI_f (fun z => z (by assumption))).symm | (rw [if_pos h100]; done) | (rw [if_pos h100]; rfl) | (simp only [if_pos h100]; done) | (simp only [if_pos h100]; rfl)) ?_
                              exact hJ99 _ _ _ (by first | exact hM | (simp only [if_pos h100]; exact hM)) (by first | exact lv_sub hl [0, 1, 2, 3, 4, 5, 6, 7, 8, 9, 10, 11, 12, 13, 14, 15] rfl | (simp only [if_pos h100]; exact lv_sub hl [0, 1, 2, 3, 4, 5, 6, 7, 8, 9, 10, 11, 12, 13, 14, 15] rfl))
                          intro H locs ls hM hl
                          refine lv_iload hx hb d_Mo_partAll_486 (lv_at hl 13 rfl) ?_
                          have hJ101 : ∀ (H : Heap) (locs : List Loc) (ls : Array Slot), MO D cT ad (upd (upd (upd (upd (upd (upd I 28 (iI (A 0))) 29 (iI (A 1))) 30 (iI (A 2))) 31 (iI (A 3))) 32 (iI ((A 4) + 1))) 27 (nI Wp.length)) J3 (va_up a 26 f2) g3 s.heap H locs → lv_has ls 17 [(0, .ref (ad 46)), (1, .int (nI b)), (3, .int (iI (e1 0))), (4, .int (iI (e1 1))), (5, .int (iI (e1 2))), (6, .int (iI (e1 3))), (7, .int (iI (e1 4))), (8, .int (iI (e1 5))), (9, .int (iI (e1 6))), (10, .int (iI ((e1 0) + (((e1 3) - (e1 0)) / 2)))), (11, .int (iI ((e1 1) + (((e1 4) - (e1 1)) / 2)))), (12, .int (iI ((e1 2) + (((e1 5) - (e1 2)) / 2)))), (13, .int (nI p9)), (14, .int (bI ((p9 % 2) = 1))), (15, .int (bI ((2 * (p9 / 2 % 2)) = 2))), (16, .int (bI ((4 * (p9 / 4 % 2)) = 4)))] → W p l e (rmOf 4 123) s m args below meth c H locs 0 0 Q (F0 m 498 ls [.int (iI (if (p9 % 2) = 1 then e1 3 else (e1 0) + (((e1 3) - (e1 0)) / 2))), .int (iI (if (4 * (p9 / 4 % 2)) = 4 then ((e1 2) + (((e1 5) - (e1 2)) / 2)) + 1 else e1 2)), .int (iI (if (2 * (p9 / 2 % 2)) = 2 then ((e1 1) + (((e1 4) - (e1 1)) / 2)) + 1 else e1 1)), .int (iI (if (p9 % 2) = 1 then ((e1 0) + (((e1 3) - (e1 0)) / 2)) + 1 else e1 0)), .ref (ad 46)]) := ?_
                          · skip
                            refine bz_eq (tgt := 496) hx hb d_Mo_partAll_488 (by decide) (fun h102 => ?_) (fun h102 => ?_)
                            · skip
                              refine lv_iload hx hb d_Mo_partAll_496 (lv_at hl 9 rfl) ?_
                              refine topi_eq (show (iI ((e1 0) + (((e1 3) - (e1 0)) / 2)) : Int32) = iI (if (p9 % 2) = 1 then e1 3 else (e1 0) + (((e1 3) - (e1 0)) / 2)) by first | rfl | exact (bI_t (by assumption)).symm | exact (bI_f (by assumption)).symm | exact (bI_f (fun z => z (by assumption))).symm | (rw [if_neg h102]; done) | (rw [if_neg h102]; rfl) | (simp only [if_neg h102]; done) | (simp only [if_neg h102]; rfl)) ?_
                              exact hJ101 _ _ _ (by first | exact hM | (simp only [if_neg h102]; exact hM)) (by first | exact lv_sub hl [0, 1, 2, 3, 4, 5, 6, 7, 8, 9, 10, 11, 12, 13, 14, 15] rfl | (simp only [if_neg h102]; exact lv_sub hl [0, 1, 2, 3, 4, 5, 6, 7, 8, 9, 10, 11, 12, 13, 14, 15] rfl))
                            · skip
                              refine lv_iload hx hb d_Mo_partAll_491 (lv_at hl 5 rfl) ?_
                              refine lv_goto (tgt := 498) hx hb d_Mo_partAll_493 (by decide) ?_
                              refine topi_eq (show (iI (e1 3) : Int32) = iI (if (p9 % 2) = 1 then e1 3 else (e1 0) + (((e1 3) - (e1 0)) / 2)) by first | rfl | exact (bI_t (by assumption)).symm | exact (bI_f (by assumption)).symm | exact (bI_f (fun z => z (by assumption))).symm | (rw [if_pos h102]; done) | (rw [if_pos h102]; rfl) | (simp only [if_pos h102]; done) | (simp only [if_pos h102]; rfl)) ?_
                              exact hJ101 _ _ _ (by first | exact hM | (simp only [if_pos h102]; exact hM)) (by first | exact lv_sub hl [0, 1, 2, 3, 4, 5, 6, 7, 8, 9, 10, 11, 12, 13, 14, 15] rfl | (simp only [if_pos h102]; exact lv_sub hl [0, 1, 2, 3, 4, 5, 6, 7, 8, 9, 10, 11, 12, 13, 14, 15] rfl))
                          intro H locs ls hM hl
                          refine lv_iload hx hb d_Mo_partAll_498 (lv_at hl 14 rfl) ?_
                          have hJ103 : ∀ (H : Heap) (locs : List Loc) (ls : Array Slot), MO D cT ad (upd (upd (upd (upd (upd (upd I 28 (iI (A 0))) 29 (iI (A 1))) 30 (iI (A 2))) 31 (iI (A 3))) 32 (iI ((A 4) + 1))) 27 (nI Wp.length)) J3 (va_up a 26 f2) g3 s.heap H locs → lv_has ls 17 [(0, .ref (ad 46)), (1, .int (nI b)), (3, .int (iI (e1 0))), (4, .int (iI (e1 1))), (5, .int (iI (e1 2))), (6, .int (iI (e1 3))), (7, .int (iI (e1 4))), (8, .int (iI (e1 5))), (9, .int (iI (e1 6))), (10, .int (iI ((e1 0) + (((e1 3) - (e1 0)) / 2)))), (11, .int (iI ((e1 1) + (((e1 4) - (e1 1)) / 2)))), (12, .int (iI ((e1 2) + (((e1 5) - (e1 2)) / 2)))), (13, .int (nI p9)), (14, .int (bI ((p9 % 2) = 1))), (15, .int (bI ((2 * (p9 / 2 % 2)) = 2))), (16, .int (bI ((4 * (p9 / 4 % 2)) = 4)))] → W p l e (rmOf 4 123) s m args below meth c H locs 0 0 Q (F0 m 510 ls [.int (iI (if (2 * (p9 / 2 % 2)) = 2 then e1 4 else (e1 1) + (((e1 4) - (e1 1)) / 2))), .int (iI (if (p9 % 2) = 1 then e1 3 else (e1 0) + (((e1 3) - (e1 0)) / 2))), .int (iI (if (4 * (p9 / 4 % 2)) = 4 then ((e1 2) + (((e1 5) - (e1 2)) / 2)) + 1 else e1 2)), .int (iI (if (2 * (p9 / 2 % 2)) = 2 then ((e1 1) + (((e1 4) - (e1 1)) / 2)) + 1 else e1 1)), .int (iI (if (p9 % 2) = 1 then ((e1 0) + (((e1 3) - (e1 0)) / 2)) + 1 else e1 0)), .ref (ad 46)]) := ?_
                          · skip
                            refine bz_eq (tgt := 508) hx hb d_Mo_partAll_500 (by decide) (fun h104 => ?_) (fun h104 => ?_)
                            · skip
                              refine lv_iload hx hb d_Mo_partAll_508 (lv_at hl 10 rfl) ?_
                              refine topi_eq (show (iI ((e1 1) + (((e1 4) - (e1 1)) / 2)) : Int32) = iI (if (2 * (p9 / 2 % 2)) = 2 then e1 4 else (e1 1) + (((e1 4) - (e1 1)) / 2)) by first | rfl | exact (bI_t (by assumption)).symm | exact (bI_f (by assumption)).symm | exact (bI_f (fun z => z (by assumption))).symm | (rw [if_neg h104]; done) | (rw [if_neg h104]; rfl) | (simp only [if_neg h104]; done) | (simp only [if_neg h104]; rfl)) ?_
                              exact hJ103 _ _ _ (by first | exact hM | (simp only [if_neg h104]; exact hM)) (by first | exact lv_sub hl [0, 1, 2, 3, 4, 5, 6, 7, 8, 9, 10, 11, 12, 13, 14, 15] rfl | (simp only [if_neg h104]; exact lv_sub hl [0, 1, 2, 3, 4, 5, 6, 7, 8, 9, 10, 11, 12, 13, 14, 15] rfl))
                            · skip
                              refine lv_iload hx hb d_Mo_partAll_503 (lv_at hl 6 rfl) ?_
                              refine lv_goto (tgt := 510) hx hb d_Mo_partAll_505 (by decide) ?_
                              refine topi_eq (show (iI (e1 4) : Int32) = iI (if (2 * (p9 / 2 % 2)) = 2 then e1 4 else (e1 1) + (((e1 4) - (e1 1)) / 2)) by first | rfl | exact (bI_t (by assumption)).symm | exact (bI_f (by assumption)).symm | exact (bI_f (fun z => z (by assumption))).symm | (rw [if_pos h104]; done) | (rw [if_pos h104]; rfl) | (simp only [if_pos h104]; done) | (simp only [if_pos h104]; rfl)) ?_
                              exact hJ103 _ _ _ (by first | exact hM | (simp only [if_pos h104]; exact hM)) (by first | exact lv_sub hl [0, 1, 2, 3, 4, 5, 6, 7, 8, 9, 10, 11, 12, 13, 14, 15] rfl | (simp only [if_pos h104]; exact lv_sub hl [0, 1, 2, 3, 4, 5, 6, 7, 8, 9, 10, 11, 12, 13, 14, 15] rfl))
                          intro H locs ls hM hl
                          refine lv_iload hx hb d_Mo_partAll_510 (lv_at hl 15 rfl) ?_
                          have hJ105 : ∀ (H : Heap) (locs : List Loc) (ls : Array Slot), MO D cT ad (upd (upd (upd (upd (upd (upd I 28 (iI (A 0))) 29 (iI (A 1))) 30 (iI (A 2))) 31 (iI (A 3))) 32 (iI ((A 4) + 1))) 27 (nI Wp.length)) J3 (va_up a 26 f2) g3 s.heap H locs → lv_has ls 17 [(0, .ref (ad 46)), (1, .int (nI b)), (3, .int (iI (e1 0))), (4, .int (iI (e1 1))), (5, .int (iI (e1 2))), (6, .int (iI (e1 3))), (7, .int (iI (e1 4))), (8, .int (iI (e1 5))), (9, .int (iI (e1 6))), (10, .int (iI ((e1 0) + (((e1 3) - (e1 0)) / 2)))), (11, .int (iI ((e1 1) + (((e1 4) - (e1 1)) / 2)))), (12, .int (iI ((e1 2) + (((e1 5) - (e1 2)) / 2)))), (13, .int (nI p9)), (14, .int (bI ((p9 % 2) = 1))), (15, .int (bI ((2 * (p9 / 2 % 2)) = 2))), (16, .int (bI ((4 * (p9 / 4 % 2)) = 4)))] → W p l e (rmOf 4 123) s m args below meth c H locs 0 0 Q (F0 m 522 ls [.int (iI (if (4 * (p9 / 4 % 2)) = 4 then e1 5 else (e1 2) + (((e1 5) - (e1 2)) / 2))), .int (iI (if (2 * (p9 / 2 % 2)) = 2 then e1 4 else (e1 1) + (((e1 4) - (e1 1)) / 2))), .int (iI (if (p9 % 2) = 1 then e1 3 else (e1 0) + (((e1 3) - (e1 0)) / 2))), .int (iI (if (4 * (p9 / 4 % 2)) = 4 then ((e1 2) + (((e1 5) - (e1 2)) / 2)) + 1 else e1 2)), .int (iI (if (2 * (p9 / 2 % 2)) = 2 then ((e1 1) + (((e1 4) - (e1 1)) / 2)) + 1 else e1 1)), .int (iI (if (p9 % 2) = 1 then ((e1 0) + (((e1 3) - (e1 0)) / 2)) + 1 else e1 0)), .ref (ad 46)]) := ?_
                          · skip
                            refine bz_eq (tgt := 520) hx hb d_Mo_partAll_512 (by decide) (fun h106 => ?_) (fun h106 => ?_)
                            · skip
                              refine lv_iload hx hb d_Mo_partAll_520 (lv_at hl 11 rfl) ?_
                              refine topi_eq (show (iI ((e1 2) + (((e1 5) - (e1 2)) / 2)) : Int32) = iI (if (4 * (p9 / 4 % 2)) = 4 then e1 5 else (e1 2) + (((e1 5) - (e1 2)) / 2)) by first | rfl | exact (bI_t (by assumption)).symm | exact (bI_f (by assumption)).symm | exact (bI_f (fun z => z (by assumption))).symm | (rw [if_neg h106]; done) | (rw [if_neg h106]; rfl) | (simp only [if_neg h106]; done) | (simp only [if_neg h106]; rfl)) ?_
                              exact hJ105 _ _ _ (by first | exact hM | (simp only [if_neg h106]; exact hM)) (by first | exact lv_sub hl [0, 1, 2, 3, 4, 5, 6, 7, 8, 9, 10, 11, 12, 13, 14, 15] rfl | (simp only [if_neg h106]; exact lv_sub hl [0, 1, 2, 3, 4, 5, 6, 7, 8, 9, 10, 11, 12, 13, 14, 15] rfl))
                            · skip
                              refine lv_iload hx hb d_Mo_partAll_515 (lv_at hl 7 rfl) ?_
                              refine lv_goto (tgt := 522) hx hb d_Mo_partAll_517 (by decide) ?_
                              refine topi_eq (show (iI (e1 5) : Int32) = iI (if (4 * (p9 / 4 % 2)) = 4 then e1 5 else (e1 2) + (((e1 5) - (e1 2)) / 2)) by first | rfl | exact (bI_t (by assumption)).symm | exact (bI_f (by assumption)).symm | exact (bI_f (fun z => z (by assumption))).symm | (rw [if_pos h106]; done) | (rw [if_pos h106]; rfl) | (simp only [if_pos h106]; done) | (simp only [if_pos h106]; rfl)) ?_
                              exact hJ105 _ _ _ (by first | exact hM | (simp only [if_pos h106]; exact hM)) (by first | exact lv_sub hl [0, 1, 2, 3, 4, 5, 6, 7, 8, 9, 10, 11, 12, 13, 14, 15] rfl | (simp only [if_pos h106]; exact lv_sub hl [0, 1, 2, 3, 4, 5, 6, 7, 8, 9, 10, 11, 12, 13, 14, 15] rfl))
                          intro H locs ls hM hl
                          refine lv_iload hx hb d_Mo_partAll_522 (lv_at hl 8 rfl) ?_
                          refine lv_iconst (v := 1) hx hb d_Mo_partAll_524 (by decide) ?_
                          refine lv_iadd hx hb d_Mo_partAll_525 ?_
                          refine topi_eq (iI_add (e1 6) 1) ?_
                          refine mo_callv (np := 7) hC hK hM (c_Mo_puts l D cT ad (upd (upd (upd (upd (upd (upd I 28 (iI (A 0))) 29 (iI (A 1))) 30 (iI (A 2))) 31 (iI (A 3))) 32 (iI ((A 4) + 1))) 27 (nI Wp.length)) J3 (va_up a 26 f2) g3  (en7 (if (p9 % 2) = 1 then ((e1 0) + (((e1 3) - (e1 0)) / 2)) + 1 else e1 0) (if (2 * (p9 / 2 % 2)) = 2 then ((e1 1) + (((e1 4) - (e1 1)) / 2)) + 1 else e1 1) (if (4 * (p9 / 4 % 2)) = 4 then ((e1 2) + (((e1 5) - (e1 2)) / 2)) + 1 else e1 2) (if (p9 % 2) = 1 then e1 3 else (e1 0) + (((e1 3) - (e1 0)) / 2)) (if (2 * (p9 / 2 % 2)) = 2 then e1 4 else (e1 1) + (((e1 4) - (e1 1)) / 2)) (if (4 * (p9 / 4 % 2)) = 4 then e1 5 else (e1 2) + (((e1 5) - (e1 2)) / 2)) ((e1 6) + 1)) Wp.length rfl (by omega)) rfl ⟨wl_Mo_243, wi_Mo_puts, ws_Mo_puts, wc_Mo_puts, wn_Mo⟩ ⟨by decide, by decide, by decide +kernel⟩ ⟨Nat.le_of_ble_eq_true rfl, Nat.le_of_ble_eq_true rfl⟩ hl.1 rfl (rest := []) rfl (Nat.le_of_ble_eq_true rfl) ⟨Nat.zero_le _, Nat.zero_le _⟩ d_Mo_partAll_526 (fun I107 J107 a107 g107 H locs hp107 hM => ?_)
                          cases hp107
                          rw [upd_upd, bx_uu] at hM
                          refine lv_iinc (v := nI (p9 + 1)) (lv' := [(13, .int (nI (p9 + 1))), (0, .ref (ad 46)), (1, .int (nI b)), (3, .int (iI (e1 0))), (4, .int (iI (e1 1))), (5, .int (iI (e1 2))), (6, .int (iI (e1 3))), (7, .int (iI (e1 4))), (8, .int (iI (e1 5))), (9, .int (iI (e1 6))), (10, .int (iI ((e1 0) + (((e1 3) - (e1 0)) / 2)))), (11, .int (iI ((e1 1) + (((e1 4) - (e1 1)) / 2)))), (12, .int (iI ((e1 2) + (((e1 5) - (e1 2)) / 2)))), (14, .int (bI ((p9 % 2) = 1))), (15, .int (bI ((2 * (p9 / 2 % 2)) = 2))), (16, .int (bI ((4 * (p9 / 4 % 2)) = 4)))]) hx hb d_Mo_partAll_529 hl (k := 12) rfl (nI_add p9 1) (by decide) rfl (fun ls hl => ?_)
                          refine lv_goto (tgt := 357) hx hb d_Mo_partAll_532 (by decide) ?_
                          have hcok : ¬ (p9 % 2 = 1 ∧ e1 0 = e1 3) ∧ ¬ (2 * (p9 / 2 % 2) = 2 ∧ e1 1 = e1 4) ∧ ¬ (4 * (p9 / 4 % 2) = 4 ∧ e1 2 = e1 5) := by omega
                          exact ih357 (p9 + 1) (chd e1 p9 :: Wp) _ _ _ _ (by omega) (by omega) (WR_push hWRp (chd e1 p9)) (⟨chd_ok hv h63 hcok, by rw [show chd e1 p9 6 = e1 6 + 1 from rfl]; omega, hokp⟩) (by simp only [List.length_cons]; omega) (pl_push htp hcok) (hM) (lv_sub hl [1, 2, 3, 4, 5, 6, 7, 8, 9, 10, 11, 12, 0] rfl)
                    · skip
                      refine lv_iload hx hb d_Mo_partAll_425 (lv_at hl 4 rfl) ?_
                      refine lv_iload hx hb d_Mo_partAll_427 (lv_at hl 7 rfl) ?_
                      refine zc_eq hx hb (e1 1) (e1 4) (by omega) (by omega) (by omega) (by omega) d_Mo_partAll_429 (tgt := 529) (by decide) (fun h108 => ?_) (fun h108 => ?_)
                      · skip
                        refine lv_iinc (v := nI (p9 + 1)) (lv' := [(13, .int (nI (p9 + 1))), (16, .int (bI ((4 * (p9 / 4 % 2)) = 4))), (0, .ref (ad 46)), (1, .int (nI b)), (3, .int (iI (e1 0))), (4, .int (iI (e1 1))), (5, .int (iI (e1 2))), (6, .int (iI (e1 3))), (7, .int (iI (e1 4))), (8, .int (iI (e1 5))), (9, .int (iI (e1 6))), (10, .int (iI ((e1 0) + (((e1 3) - (e1 0)) / 2)))), (11, .int (iI ((e1 1) + (((e1 4) - (e1 1)) / 2)))), (12, .int (iI ((e1 2) + (((e1 5) - (e1 2)) / 2)))), (14, .int (bI ((p9 % 2) = 1))), (15, .int (bI ((2 * (p9 / 2 % 2)) = 2)))]) hx hb d_Mo_partAll_529 hl (k := 13) rfl (nI_add p9 1) (by decide) rfl (fun ls hl => ?_)
                        refine lv_goto (tgt := 357) hx hb d_Mo_partAll_532 (by decide) ?_
                        exact ih357 (p9 + 1) Wp _ _ _ _ (by omega) (by omega) (hWRp) (hokp) (by omega) (by rw [csum_n (by omega)]; exact htp) (hM) (lv_sub hl [2, 3, 4, 5, 6, 7, 8, 9, 10, 11, 12, 13, 0] rfl)
                      · skip
                        refine lv_iload hx hb d_Mo_partAll_432 (lv_at hl 0 rfl) ?_
                        refine bz_eq (tgt := 444) hx hb d_Mo_partAll_434 (by decide) (fun h109 => ?_) (fun h109 => ?_)
                        · skip
                          refine lv_aload_n hx hb d_Mo_partAll_444 rfl (lv_at hl 1 rfl) ?_
                          refine lv_iload hx hb d_Mo_partAll_445 (lv_at hl 14 rfl) ?_
                          have hJ110 : ∀ (H : Heap) (locs : List Loc) (ls : Array Slot), MO D cT ad (upd (upd (upd (upd (upd (upd I 28 (iI (A 0))) 29 (iI (A 1))) 30 (iI (A 2))) 31 (iI (A 3))) 32 (iI ((A 4) + 1))) 27 (nI Wp.length)) J3 (va_up a 26 f2) g3 s.heap H locs → lv_has ls 17 [(0, .ref (ad 46)), (1, .int (nI b)), (3, .int (iI (e1 0))), (4, .int (iI (e1 1))), (5, .int (iI (e1 2))), (6, .int (iI (e1 3))), (7, .int (iI (e1 4))), (8, .int (iI (e1 5))), (9, .int (iI (e1 6))), (10, .int (iI ((e1 0) + (((e1 3) - (e1 0)) / 2)))), (11, .int (iI ((e1 1) + (((e1 4) - (e1 1)) / 2)))), (12, .int (iI ((e1 2) + (((e1 5) - (e1 2)) / 2)))), (13, .int (nI p9)), (14, .int (bI ((p9 % 2) = 1))), (15, .int (bI ((2 * (p9 / 2 % 2)) = 2))), (16, .int (bI ((4 * (p9 / 4 % 2)) = 4)))] → W p l e (rmOf 4 123) s m args below meth c H locs 0 0 Q (F0 m 458 ls [.int (iI (if (p9 % 2) = 1 then ((e1 0) + (((e1 3) - (e1 0)) / 2)) + 1 else e1 0)), .ref (ad 46)]) := ?_
                          · skip
                            refine bz_eq (tgt := 457) hx hb d_Mo_partAll_447 (by decide) (fun h111 => ?_) (fun h111 => ?_)
                            · skip
                              refine lv_iload_n hx hb d_Mo_partAll_457 rfl (lv_at hl 3 rfl) ?_
                              refine topi_eq (show (iI (e1 0) : Int32) = iI (if (p9 % 2) = 1 then ((e1 0) + (((e1 3) - (e1 0)) / 2)) + 1 else e1 0) by first | rfl | exact (bI_t (by assumption)).symm | exact (bI_f (by assumption)).symm | exact (bI_f (fun z => z (by assumption))).symm | (rw [if_neg h111]; done) | (rw [if_neg h111]; rfl) | (simp only [if_neg h111]; done) | (simp only [if_neg h111]; rfl)) ?_
                              exact hJ110 _ _ _ (by first | exact hM | (simp only [if_neg h111]; exact hM)) (by first | exact lv_sub hl [1, 2, 3, 4, 5, 6, 7, 8, 9, 10, 11, 12, 13, 14, 15, 0] rfl | (simp only [if_neg h111]; exact lv_sub hl [1, 2, 3, 4, 5, 6, 7, 8, 9, 10, 11, 12, 13, 14, 15, 0] rfl))
                            · skip
                              refine lv_iload hx hb d_Mo_partAll_450 (lv_at hl 10 rfl) ?_
                              refine lv_iconst (v := 1) hx hb d_Mo_partAll_452 (by decide) ?_
                              refine lv_iadd hx hb d_Mo_partAll_453 ?_
                              refine topi_eq (iI_add ((e1 0) + (((e1 3) - (e1 0)) / 2)) 1) ?_
                              refine lv_goto (tgt := 458) hx hb d_Mo_partAll_454 (by decide) ?_
                              refine topi_eq (show (iI (((e1 0) + (((e1 3) - (e1 0)) / 2)) + 1) : Int32) = iI (if (p9 % 2) = 1 then ((e1 0) + (((e1 3) - (e1 0)) / 2)) + 1 else e1 0) by first | rfl | exact (bI_t (by assumption)).symm | exact (bI_f (by assumption)).symm | exact (bI_f (fun z => z (by assumption))).symm | (rw [if_pos h111]; done) | (rw [if_pos h111]; rfl) | (simp only [if_pos h111]; done) | (simp only [if_pos h111]; rfl)) ?_
                              exact hJ110 _ _ _ (by first | exact hM | (simp only [if_pos h111]; exact hM)) (by first | exact lv_sub hl [1, 2, 3, 4, 5, 6, 7, 8, 9, 10, 11, 12, 13, 14, 15, 0] rfl | (simp only [if_pos h111]; exact lv_sub hl [1, 2, 3, 4, 5, 6, 7, 8, 9, 10, 11, 12, 13, 14, 15, 0] rfl))
                          intro H locs ls hM hl
                          refine lv_iload hx hb d_Mo_partAll_458 (lv_at hl 14 rfl) ?_
                          have hJ112 : ∀ (H : Heap) (locs : List Loc) (ls : Array Slot), MO D cT ad (upd (upd (upd (upd (upd (upd I 28 (iI (A 0))) 29 (iI (A 1))) 30 (iI (A 2))) 31 (iI (A 3))) 32 (iI ((A 4) + 1))) 27 (nI Wp.length)) J3 (va_up a 26 f2) g3 s.heap H locs → lv_has ls 17 [(0, .ref (ad 46)), (1, .int (nI b)), (3, .int (iI (e1 0))), (4, .int (iI (e1 1))), (5, .int (iI (e1 2))), (6, .int (iI (e1 3))), (7, .int (iI (e1 4))), (8, .int (iI (e1 5))), (9, .int (iI (e1 6))), (10, .int (iI ((e1 0) + (((e1 3) - (e1 0)) / 2)))), (11, .int (iI ((e1 1) + (((e1 4) - (e1 1)) / 2)))), (12, .int (iI ((e1 2) + (((e1 5) - (e1 2)) / 2)))), (13, .int (nI p9)), (14, .int (bI ((p9 % 2) = 1))), (15, .int (bI ((2 * (p9 / 2 % 2)) = 2))), (16, .int (bI ((4 * (p9 / 4 % 2)) = 4)))] → W p l e (rmOf 4 123) s m args below meth c H locs 0 0 Q (F0 m 472 ls [.int (iI (if (2 * (p9 / 2 % 2)) = 2 then ((e1 1) + (((e1 4) - (e1 1)) / 2)) + 1 else e1 1)), .int (iI (if (p9 % 2) = 1 then ((e1 0) + (((e1 3) - (e1 0)) / 2)) + 1 else e1 0)), .ref (ad 46)]) := ?_
                          · skip
                            refine bz_eq (tgt := 470) hx hb d_Mo_partAll_460 (by decide) (fun h113 => ?_) (fun h113 => ?_)
                            · skip
                              refine lv_iload hx hb d_Mo_partAll_470 (lv_at hl 3 rfl) ?_
                              refine topi_eq (show (iI (e1 1) : Int32) = iI (if (2 * (p9 / 2 % 2)) = 2 then ((e1 1) + (((e1 4) - (e1 1)) / 2)) + 1 else e1 1) by first | rfl | exact (bI_t (by assumption)).symm | exact (bI_f (by assumption)).symm | exact (bI_f (fun z => z (by assumption))).symm | (rw [if_neg h113]; done) | (rw [if_neg h113]; rfl) | (simp only [if_neg h113]; done) | (simp only [if_neg h113]; rfl)) ?_
                              exact hJ112 _ _ _ (by first | exact hM | (simp only [if_neg h113]; exact hM)) (by first | exact lv_sub hl [0, 1, 2, 3, 4, 5, 6, 7, 8, 9, 10, 11, 12, 13, 14, 15] rfl | (simp only [if_neg h113]; exact lv_sub hl [0, 1, 2, 3, 4, 5, 6, 7, 8, 9, 10, 11, 12, 13, 14, 15] rfl))
                            · skip
                              refine lv_iload hx hb d_Mo_partAll_463 (lv_at hl 10 rfl) ?_
                              refine lv_iconst (v := 1) hx hb d_Mo_partAll_465 (by decide) ?_
                              refine lv_iadd hx hb d_Mo_partAll_466 ?_
                              refine topi_eq (iI_add ((e1 1) + (((e1 4) - (e1 1)) / 2)) 1) ?_
                              refine lv_goto (tgt := 472) hx hb d_Mo_partAll_467 (by decide) ?_
                              refine topi_eq (show (iI (((e1 1) + (((e1 4) - (e1 1)) / 2)) + 1) : Int32) = iI (if (2 * (p9 / 2 % 2)) = 2 then ((e1 1) + (((e1 4) - (e1 1)) / 2)) + 1 else e1 1) by first | rfl | exact (bI_t (by assumption)).symm | exact (bI_f (by assumption)).symm | exact (bI_f (fun z => z (by assumption))).symm | (rw [if_pos h113]; done) | (rw [if_pos h113]; rfl) | (simp only [if_pos h113]; done) | (simp only [if_pos h113]; rfl)) ?_
                              exact hJ112 _ _ _ (by first | exact hM | (simp only [if_pos h113]; exact hM)) (by first | exact lv_sub hl [0, 1, 2, 3, 4, 5, 6, 7, 8, 9, 10, 11, 12, 13, 14, 15] rfl | (simp only [if_pos h113]; exact lv_sub hl [0, 1, 2, 3, 4, 5, 6, 7, 8, 9, 10, 11, 12, 13, 14, 15] rfl))
                          intro H locs ls hM hl
                          refine lv_iload hx hb d_Mo_partAll_472 (lv_at hl 15 rfl) ?_
                          have hJ114 : ∀ (H : Heap) (locs : List Loc) (ls : Array Slot), MO D cT ad (upd (upd (upd (upd (upd (upd I 28 (iI (A 0))) 29 (iI (A 1))) 30 (iI (A 2))) 31 (iI (A 3))) 32 (iI ((A 4) + 1))) 27 (nI Wp.length)) J3 (va_up a 26 f2) g3 s.heap H locs → lv_has ls 17 [(0, .ref (ad 46)), (1, .int (nI b)), (3, .int (iI (e1 0))), (4, .int (iI (e1 1))), (5, .int (iI (e1 2))), (6, .int (iI (e1 3))), (7, .int (iI (e1 4))), (8, .int (iI (e1 5))), (9, .int (iI (e1 6))), (10, .int (iI ((e1 0) + (((e1 3) - (e1 0)) / 2)))), (11, .int (iI ((e1 1) + (((e1 4) - (e1 1)) / 2)))), (12, .int (iI ((e1 2) + (((e1 5) - (e1 2)) / 2)))), (13, .int (nI p9)), (14, .int (bI ((p9 % 2) = 1))), (15, .int (bI ((2 * (p9 / 2 % 2)) = 2))), (16, .int (bI ((4 * (p9 / 4 % 2)) = 4)))] → W p l e (rmOf 4 123) s m args below meth c H locs 0 0 Q (F0 m 486 ls [.int (iI (if (4 * (p9 / 4 % 2)) = 4 then ((e1 2) + (((e1 5) - (e1 2)) / 2)) + 1 else e1 2)), .int (iI (if (2 * (p9 / 2 % 2)) = 2 then ((e1 1) + (((e1 4) - (e1 1)) / 2)) + 1 else e1 1)), .int (iI (if (p9 % 2) = 1 then ((e1 0) + (((e1 3) - (e1 0)) / 2)) + 1 else e1 0)), .ref (ad 46)]) := ?_
                          · skip
                            refine bz_eq (tgt := 484) hx hb d_Mo_partAll_474 (by decide) (fun h115 => ?_) (fun h115 => ?_)
                            · skip
                              refine lv_iload hx hb d_Mo_partAll_484 (lv_at hl 4 rfl) ?_
                              refine topi_eq (show (iI (e1 2) : Int32) = iI (if (4 * (p9 / 4 % 2)) = 4 then ((e1 2) + (((e1 5) - (e1 2)) / 2)) + 1 else e1 2) by first | rfl | exact (bI_t (by assumption)).symm | exact (bI_f (by assumption)).symm | exact (bI_f (fun z => z (by assumption))).symm | (rw [if_neg h115]; done) | (rw [if_neg h115]; rfl) | (simp only [if_neg h115]; done) | (simp only [if_neg h115]; rfl)) ?_
                              exact hJ114 _ _ _ (by first | exact hM | (simp only [if_neg h115]; exact hM)) (by first | exact lv_sub hl [0, 1, 2, 3, 4, 5, 6, 7, 8, 9, 10, 11, 12, 13, 14, 15] rfl | (simp only [if_neg h115]; exact lv_sub hl [0, 1, 2, 3, 4, 5, 6, 7, 8, 9, 10, 11, 12, 13, 14, 15] rfl))
                            · skip
                              refine lv_iload hx hb d_Mo_partAll_477 (lv_at hl 11 rfl) ?_
                              refine lv_iconst (v := 1) hx hb d_Mo_partAll_479 (by decide) ?_
                              refine lv_iadd hx hb d_Mo_partAll_480 ?_
                              refine topi_eq (iI_add ((e1 2) + (((e1 5) - (e1 2)) / 2)) 1) ?_
                              refine lv_goto (tgt := 486) hx hb d_Mo_partAll_481 (by decide) ?_
                              refine topi_eq (show (iI (((e1 2) + (((e1 5) - (e1 2)) / 2)) + 1) : Int32) = iI (if (4 * (p9 / 4 % 2)) = 4 then ((e1 2) + (((e1 5) - (e1 2)) / 2)) + 1 else e1 2) by first | rfl | exact (bI_t (by assumption)).symm | exact (bI_f (by assumption)).symm | exact (bI_f (fun z => z (by assumption))).symm | (rw [if_pos h115]; done) | (rw [if_pos h115]; rfl) | (simp only [if_pos h115]; done) | (simp only [if_pos h115]; rfl)) ?_
                              exact hJ114 _ _ _ (by first | exact hM | (simp only [if_pos h115]; exact hM)) (by first | exact lv_sub hl [0, 1, 2, 3, 4, 5, 6, 7, 8, 9, 10, 11, 12, 13, 14, 15] rfl | (simp only [if_pos h115]; exact lv_sub hl [0, 1, 2, 3, 4, 5, 6, 7, 8, 9, 10, 11, 12, 13, 14, 15] rfl))
                          intro H locs ls hM hl
                          refine lv_iload hx hb d_Mo_partAll_486 (lv_at hl 13 rfl) ?_
                          have hJ116 : ∀ (H : Heap) (locs : List Loc) (ls : Array Slot), MO D cT ad (upd (upd (upd (upd (upd (upd I 28 (iI (A 0))) 29 (iI (A 1))) 30 (iI (A 2))) 31 (iI (A 3))) 32 (iI ((A 4) + 1))) 27 (nI Wp.length)) J3 (va_up a 26 f2) g3 s.heap H locs → lv_has ls 17 [(0, .ref (ad 46)), (1, .int (nI b)), (3, .int (iI (e1 0))), (4, .int (iI (e1 1))), (5, .int (iI (e1 2))), (6, .int (iI (e1 3))), (7, .int (iI (e1 4))), (8, .int (iI (e1 5))), (9, .int (iI (e1 6))), (10, .int (iI ((e1 0) + (((e1 3) - (e1 0)) / 2)))), (11, .int (iI ((e1 1) + (((e1 4) - (e1 1)) / 2)))), (12, .int (iI ((e1 2) + (((e1 5) - (e1 2)) / 2)))), (13, .int (nI p9)), (14, .int (bI ((p9 % 2) = 1))), (15, .int (bI ((2 * (p9 / 2 % 2)) = 2))), (16, .int (bI ((4 * (p9 / 4 % 2)) = 4)))] → W p l e (rmOf 4 123) s m args below meth c H locs 0 0 Q (F0 m 498 ls [.int (iI (if (p9 % 2) = 1 then e1 3 else (e1 0) + (((e1 3) - (e1 0)) / 2))), .int (iI (if (4 * (p9 / 4 % 2)) = 4 then ((e1 2) + (((e1 5) - (e1 2)) / 2)) + 1 else e1 2)), .int (iI (if (2 * (p9 / 2 % 2)) = 2 then ((e1 1) + (((e1 4) - (e1 1)) / 2)) + 1 else e1 1)), .int (iI (if (p9 % 2) = 1 then ((e1 0) + (((e1 3) - (e1 0)) / 2)) + 1 else e1 0)), .ref (ad 46)]) := ?_
                          · skip
                            refine bz_eq (tgt := 496) hx hb d_Mo_partAll_488 (by decide) (fun h117 => ?_) (fun h117 => ?_)
                            · skip
                              refine lv_iload hx hb d_Mo_partAll_496 (lv_at hl 9 rfl) ?_
                              refine topi_eq (show (iI ((e1 0) + (((e1 3) - (e1 0)) / 2)) : Int32) = iI (if (p9 % 2) = 1 then e1 3 else (e1 0) + (((e1 3) - (e1 0)) / 2)) by first | rfl | exact (bI_t (by assumption)).symm | exact (bI_f (by assumption)).symm | exact (bI_f (fun z => z (by assumption))).symm | (rw [if_neg h117]; done) | (rw [if_neg h117]; rfl) | (simp only [if_neg h117]; done) | (simp only [if_neg h117]; rfl)) ?_
                              exact hJ116 _ _ _ (by first | exact hM | (simp only [if_neg h117]; exact hM)) (by first | exact lv_sub hl [0, 1, 2, 3, 4, 5, 6, 7, 8, 9, 10, 11, 12, 13, 14, 15] rfl | (simp only [if_neg h117]; exact lv_sub hl [0, 1, 2, 3, 4, 5, 6, 7, 8, 9, 10, 11, 12, 13, 14, 15] rfl))
                            · skip
                              refine lv_iload hx hb d_Mo_partAll_491 (lv_at hl 5 rfl) ?_
                              refine lv_goto (tgt := 498) hx hb d_Mo_partAll_493 (by decide) ?_
                              refine topi_eq (show (iI (e1 3) : Int32) = iI (if (p9 % 2) = 1 then e1 3 else (e1 0) + (((e1 3) - (e1 0)) / 2)) by first | rfl | exact (bI_t (by assumption)).symm | exact (bI_f (by assumption)).symm | exact (bI_f (fun z => z (by assumption))).symm | (rw [if_pos h117]; done) | (rw [if_pos h117]; rfl) | (simp only [if_pos h117]; done) | (simp only [if_pos h117]; rfl)) ?_
                              exact hJ116 _ _ _ (by first | exact hM | (simp only [if_pos h117]; exact hM)) (by first | exact lv_sub hl [0, 1, 2, 3, 4, 5, 6, 7, 8, 9, 10, 11, 12, 13, 14, 15] rfl | (simp only [if_pos h117]; exact lv_sub hl [0, 1, 2, 3, 4, 5, 6, 7, 8, 9, 10, 11, 12, 13, 14, 15] rfl))
                          intro H locs ls hM hl
                          refine lv_iload hx hb d_Mo_partAll_498 (lv_at hl 14 rfl) ?_
                          have hJ118 : ∀ (H : Heap) (locs : List Loc) (ls : Array Slot), MO D cT ad (upd (upd (upd (upd (upd (upd I 28 (iI (A 0))) 29 (iI (A 1))) 30 (iI (A 2))) 31 (iI (A 3))) 32 (iI ((A 4) + 1))) 27 (nI Wp.length)) J3 (va_up a 26 f2) g3 s.heap H locs → lv_has ls 17 [(0, .ref (ad 46)), (1, .int (nI b)), (3, .int (iI (e1 0))), (4, .int (iI (e1 1))), (5, .int (iI (e1 2))), (6, .int (iI (e1 3))), (7, .int (iI (e1 4))), (8, .int (iI (e1 5))), (9, .int (iI (e1 6))), (10, .int (iI ((e1 0) + (((e1 3) - (e1 0)) / 2)))), (11, .int (iI ((e1 1) + (((e1 4) - (e1 1)) / 2)))), (12, .int (iI ((e1 2) + (((e1 5) - (e1 2)) / 2)))), (13, .int (nI p9)), (14, .int (bI ((p9 % 2) = 1))), (15, .int (bI ((2 * (p9 / 2 % 2)) = 2))), (16, .int (bI ((4 * (p9 / 4 % 2)) = 4)))] → W p l e (rmOf 4 123) s m args below meth c H locs 0 0 Q (F0 m 510 ls [.int (iI (if (2 * (p9 / 2 % 2)) = 2 then e1 4 else (e1 1) + (((e1 4) - (e1 1)) / 2))), .int (iI (if (p9 % 2) = 1 then e1 3 else (e1 0) + (((e1 3) - (e1 0)) / 2))), .int (iI (if (4 * (p9 / 4 % 2)) = 4 then ((e1 2) + (((e1 5) - (e1 2)) / 2)) + 1 else e1 2)), .int (iI (if (2 * (p9 / 2 % 2)) = 2 then ((e1 1) + (((e1 4) - (e1 1)) / 2)) + 1 else e1 1)), .int (iI (if (p9 % 2) = 1 then ((e1 0) + (((e1 3) - (e1 0)) / 2)) + 1 else e1 0)), .ref (ad 46)]) := ?_
                          · skip
                            refine bz_eq (tgt := 508) hx hb d_Mo_partAll_500 (by decide) (fun h119 => ?_) (fun h119 => ?_)
                            · skip
                              refine lv_iload hx hb d_Mo_partAll_508 (lv_at hl 10 rfl) ?_
                              refine topi_eq (show (iI ((e1 1) + (((e1 4) - (e1 1)) / 2)) : Int32) = iI (if (2 * (p9 / 2 % 2)) = 2 then e1 4 else (e1 1) + (((e1 4) - (e1 1)) / 2)) by first | rfl | exact (bI_t (by assumption)).symm | exact (bI_f (by assumption)).symm | exact (bI_f (fun z => z (by assumption))).symm | (rw [if_neg h119]; done) | (rw [if_neg h119]; rfl) | (simp only [if_neg h119]; done) | (simp only [if_neg h119]; rfl)) ?_
                              exact hJ118 _ _ _ (by first | exact hM | (simp only [if_neg h119]; exact hM)) (by first | exact lv_sub hl [0, 1, 2, 3, 4, 5, 6, 7, 8, 9, 10, 11, 12, 13, 14, 15] rfl | (simp only [if_neg h119]; exact lv_sub hl [0, 1, 2, 3, 4, 5, 6, 7, 8, 9, 10, 11, 12, 13, 14, 15] rfl))
                            · skip
                              refine lv_iload hx hb d_Mo_partAll_503 (lv_at hl 6 rfl) ?_
                              refine lv_goto (tgt := 510) hx hb d_Mo_partAll_505 (by decide) ?_
                              refine topi_eq (show (iI (e1 4) : Int32) = iI (if (2 * (p9 / 2 % 2)) = 2 then e1 4 else (e1 1) + (((e1 4) - (e1 1)) / 2)) by first | rfl | exact (bI_t (by assumption)).symm | exact (bI_f (by assumption)).symm | exact (bI_f (fun z => z (by assumption))).symm | (rw [if_pos h119]; done) | (rw [if_pos h119]; rfl) | (simp only [if_pos h119]; done) | (simp only [if_pos h119]; rfl)) ?_
                              exact hJ118 _ _ _ (by first | exact hM | (simp only [if_pos h119]; exact hM)) (by first | exact lv_sub hl [0, 1, 2, 3, 4, 5, 6, 7, 8, 9, 10, 11, 12, 13, 14, 15] rfl | (simp only [if_pos h119]; exact lv_sub hl [0, 1, 2, 3, 4, 5, 6, 7, 8, 9, 10, 11, 12, 13, 14, 15] rfl))
                          intro H locs ls hM hl
                          refine lv_iload hx hb d_Mo_partAll_510 (lv_at hl 15 rfl) ?_
                          have hJ120 : ∀ (H : Heap) (locs : List Loc) (ls : Array Slot), MO D cT ad (upd (upd (upd (upd (upd (upd I 28 (iI (A 0))) 29 (iI (A 1))) 30 (iI (A 2))) 31 (iI (A 3))) 32 (iI ((A 4) + 1))) 27 (nI Wp.length)) J3 (va_up a 26 f2) g3 s.heap H locs → lv_has ls 17 [(0, .ref (ad 46)), (1, .int (nI b)), (3, .int (iI (e1 0))), (4, .int (iI (e1 1))), (5, .int (iI (e1 2))), (6, .int (iI (e1 3))), (7, .int (iI (e1 4))), (8, .int (iI (e1 5))), (9, .int (iI (e1 6))), (10, .int (iI ((e1 0) + (((e1 3) - (e1 0)) / 2)))), (11, .int (iI ((e1 1) + (((e1 4) - (e1 1)) / 2)))), (12, .int (iI ((e1 2) + (((e1 5) - (e1 2)) / 2)))), (13, .int (nI p9)), (14, .int (bI ((p9 % 2) = 1))), (15, .int (bI ((2 * (p9 / 2 % 2)) = 2))), (16, .int (bI ((4 * (p9 / 4 % 2)) = 4)))] → W p l e (rmOf 4 123) s m args below meth c H locs 0 0 Q (F0 m 522 ls [.int (iI (if (4 * (p9 / 4 % 2)) = 4 then e1 5 else (e1 2) + (((e1 5) - (e1 2)) / 2))), .int (iI (if (2 * (p9 / 2 % 2)) = 2 then e1 4 else (e1 1) + (((e1 4) - (e1 1)) / 2))), .int (iI (if (p9 % 2) = 1 then e1 3 else (e1 0) + (((e1 3) - (e1 0)) / 2))), .int (iI (if (4 * (p9 / 4 % 2)) = 4 then ((e1 2) + (((e1 5) - (e1 2)) / 2)) + 1 else e1 2)), .int (iI (if (2 * (p9 / 2 % 2)) = 2 then ((e1 1) + (((e1 4) - (e1 1)) / 2)) + 1 else e1 1)), .int (iI (if (p9 % 2) = 1 then ((e1 0) + (((e1 3) - (e1 0)) / 2)) + 1 else e1 0)), .ref (ad 46)]) := ?_
                          · skip
                            refine bz_eq (tgt := 520) hx hb d_Mo_partAll_512 (by decide) (fun h121 => ?_) (fun h121 => ?_)
                            · skip
                              refine lv_iload hx hb d_Mo_partAll_520 (lv_at hl 11 rfl) ?_
                              refine topi_eq (show (iI ((e1 2) + (((e1 5) - (e1 2)) / 2)) : Int32) = iI (if (4 * (p9 / 4 % 2)) = 4 then e1 5 else (e1 2) + (((e1 5) - (e1 2)) / 2)) by first | rfl | exact (bI_t (by assumption)).symm | exact (bI_f (by assumption)).symm | exact (bI_f (fun z => z (by assumption))).symm | (rw [if_neg h121]; done) | (rw [if_neg h121]; rfl) | (simp only [if_neg h121]; done) | (simp only [if_neg h121]; rfl)) ?_
                              exact hJ120 _ _ _ (by first | exact hM | (simp only [if_neg h121]; exact hM)) (by first | exact lv_sub hl [0, 1, 2, 3, 4, 5, 6, 7, 8, 9, 10, 11, 12, 13, 14, 15] rfl | (simp only [if_neg h121]; exact lv_sub hl [0, 1, 2, 3, 4, 5, 6, 7, 8, 9, 10, 11, 12, 13, 14, 15] rfl))
                            · skip
                              refine lv_iload hx hb d_Mo_partAll_515 (lv_at hl 7 rfl) ?_
                              refine lv_goto (tgt := 522) hx hb d_Mo_partAll_517 (by decide) ?_
                              refine topi_eq (show (iI (e1 5) : Int32) = iI (if (4 * (p9 / 4 % 2)) = 4 then e1 5 else (e1 2) + (((e1 5) - (e1 2)) / 2)) by first | rfl | exact (bI_t (by assumption)).symm | exact (bI_f (by assumption)).symm | exact (bI_f (fun z => z (by assumption))).symm | (rw [if_pos h121]; done) | (rw [if_pos h121]; rfl) | (simp only [if_pos h121]; done) | (simp only [if_pos h121]; rfl)) ?_
                              exact hJ120 _ _ _ (by first | exact hM | (simp only [if_pos h121]; exact hM)) (by first | exact lv_sub hl [0, 1, 2, 3, 4, 5, 6, 7, 8, 9, 10, 11, 12, 13, 14, 15] rfl | (simp only [if_pos h121]; exact lv_sub hl [0, 1, 2, 3, 4, 5, 6, 7, 8, 9, 10, 11, 12, 13, 14, 15] rfl))
                          intro H locs ls hM hl
                          refine lv_iload hx hb d_Mo_partAll_522 (lv_at hl 8 rfl) ?_
                          refine lv_iconst (v := 1) hx hb d_Mo_partAll_524 (by decide) ?_
                          refine lv_iadd hx hb d_Mo_partAll_525 ?_
                          refine topi_eq (iI_add (e1 6) 1) ?_
                          refine mo_callv (np := 7) hC hK hM (c_Mo_puts l D cT ad (upd (upd (upd (upd (upd (upd I 28 (iI (A 0))) 29 (iI (A 1))) 30 (iI (A 2))) 31 (iI (A 3))) 32 (iI ((A 4) + 1))) 27 (nI Wp.length)) J3 (va_up a 26 f2) g3  (en7 (if (p9 % 2) = 1 then ((e1 0) + (((e1 3) - (e1 0)) / 2)) + 1 else e1 0) (if (2 * (p9 / 2 % 2)) = 2 then ((e1 1) + (((e1 4) - (e1 1)) / 2)) + 1 else e1 1) (if (4 * (p9 / 4 % 2)) = 4 then ((e1 2) + (((e1 5) - (e1 2)) / 2)) + 1 else e1 2) (if (p9 % 2) = 1 then e1 3 else (e1 0) + (((e1 3) - (e1 0)) / 2)) (if (2 * (p9 / 2 % 2)) = 2 then e1 4 else (e1 1) + (((e1 4) - (e1 1)) / 2)) (if (4 * (p9 / 4 % 2)) = 4 then e1 5 else (e1 2) + (((e1 5) - (e1 2)) / 2)) ((e1 6) + 1)) Wp.length rfl (by omega)) rfl ⟨wl_Mo_243, wi_Mo_puts, ws_Mo_puts, wc_Mo_puts, wn_Mo⟩ ⟨by decide, by decide, by decide +kernel⟩ ⟨Nat.le_of_ble_eq_true rfl, Nat.le_of_ble_eq_true rfl⟩ hl.1 rfl (rest := []) rfl (Nat.le_of_ble_eq_true rfl) ⟨Nat.zero_le _, Nat.zero_le _⟩ d_Mo_partAll_526 (fun I122 J122 a122 g122 H locs hp122 hM => ?_)
                          cases hp122
                          rw [upd_upd, bx_uu] at hM
                          refine lv_iinc (v := nI (p9 + 1)) (lv' := [(13, .int (nI (p9 + 1))), (0, .ref (ad 46)), (1, .int (nI b)), (3, .int (iI (e1 0))), (4, .int (iI (e1 1))), (5, .int (iI (e1 2))), (6, .int (iI (e1 3))), (7, .int (iI (e1 4))), (8, .int (iI (e1 5))), (9, .int (iI (e1 6))), (10, .int (iI ((e1 0) + (((e1 3) - (e1 0)) / 2)))), (11, .int (iI ((e1 1) + (((e1 4) - (e1 1)) / 2)))), (12, .int (iI ((e1 2) + (((e1 5) - (e1 2)) / 2)))), (14, .int (bI ((p9 % 2) = 1))), (15, .int (bI ((2 * (p9 / 2 % 2)) = 2))), (16, .int (bI ((4 * (p9 / 4 % 2)) = 4)))]) hx hb d_Mo_partAll_529 hl (k := 12) rfl (nI_add p9 1) (by decide) rfl (fun ls hl => ?_)
                          refine lv_goto (tgt := 357) hx hb d_Mo_partAll_532 (by decide) ?_
                          have hcok : ¬ (p9 % 2 = 1 ∧ e1 0 = e1 3) ∧ ¬ (2 * (p9 / 2 % 2) = 2 ∧ e1 1 = e1 4) ∧ ¬ (4 * (p9 / 4 % 2) = 4 ∧ e1 2 = e1 5) := by omega
                          exact ih357 (p9 + 1) (chd e1 p9 :: Wp) _ _ _ _ (by omega) (by omega) (WR_push hWRp (chd e1 p9)) (⟨chd_ok hv h63 hcok, by rw [show chd e1 p9 6 = e1 6 + 1 from rfl]; omega, hokp⟩) (by simp only [List.length_cons]; omega) (pl_push htp hcok) (hM) (lv_sub hl [1, 2, 3, 4, 5, 6, 7, 8, 9, 10, 11, 12, 0] rfl)
                        · skip
                          refine lv_iload hx hb d_Mo_partAll_437 (lv_at hl 5 rfl) ?_
                          refine lv_iload hx hb d_Mo_partAll_439 (lv_at hl 8 rfl) ?_
                          refine zc_eq hx hb (e1 2) (e1 5) (by omega) (by omega) (by omega) (by omega) d_Mo_partAll_441 (tgt := 529) (by decide) (fun h123 => ?_) (fun h123 => ?_)
                          · skip
                            refine lv_iinc (v := nI (p9 + 1)) (lv' := [(13, .int (nI (p9 + 1))), (16, .int (bI ((4 * (p9 / 4 % 2)) = 4))), (0, .ref (ad 46)), (1, .int (nI b)), (3, .int (iI (e1 0))), (4, .int (iI (e1 1))), (5, .int (iI (e1 2))), (6, .int (iI (e1 3))), (7, .int (iI (e1 4))), (8, .int (iI (e1 5))), (9, .int (iI (e1 6))), (10, .int (iI ((e1 0) + (((e1 3) - (e1 0)) / 2)))), (11, .int (iI ((e1 1) + (((e1 4) - (e1 1)) / 2)))), (12, .int (iI ((e1 2) + (((e1 5) - (e1 2)) / 2)))), (14, .int (bI ((p9 % 2) = 1))), (15, .int (bI ((2 * (p9 / 2 % 2)) = 2)))]) hx hb d_Mo_partAll_529 hl (k := 13) rfl (nI_add p9 1) (by decide) rfl (fun ls hl => ?_)
                            refine lv_goto (tgt := 357) hx hb d_Mo_partAll_532 (by decide) ?_
                            exact ih357 (p9 + 1) Wp _ _ _ _ (by omega) (by omega) (hWRp) (hokp) (by omega) (by rw [csum_n (by omega)]; exact htp) (hM) (lv_sub hl [2, 3, 4, 5, 6, 7, 8, 9, 10, 11, 12, 13, 0] rfl)
                          · skip
                            refine lv_aload_n hx hb d_Mo_partAll_444 rfl (lv_at hl 1 rfl) ?_
                            refine lv_iload hx hb d_Mo_partAll_445 (lv_at hl 14 rfl) ?_
                            have hJ124 : ∀ (H : Heap) (locs : List Loc) (ls : Array Slot), MO D cT ad (upd (upd (upd (upd (upd (upd I 28 (iI (A 0))) 29 (iI (A 1))) 30 (iI (A 2))) 31 (iI (A 3))) 32 (iI ((A 4) + 1))) 27 (nI Wp.length)) J3 (va_up a 26 f2) g3 s.heap H locs → lv_has ls 17 [(0, .ref (ad 46)), (1, .int (nI b)), (3, .int (iI (e1 0))), (4, .int (iI (e1 1))), (5, .int (iI (e1 2))), (6, .int (iI (e1 3))), (7, .int (iI (e1 4))), (8, .int (iI (e1 5))), (9, .int (iI (e1 6))), (10, .int (iI ((e1 0) + (((e1 3) - (e1 0)) / 2)))), (11, .int (iI ((e1 1) + (((e1 4) - (e1 1)) / 2)))), (12, .int (iI ((e1 2) + (((e1 5) - (e1 2)) / 2)))), (13, .int (nI p9)), (14, .int (bI ((p9 % 2) = 1))), (15, .int (bI ((2 * (p9 / 2 % 2)) = 2))), (16, .int (bI ((4 * (p9 / 4 % 2)) = 4)))] → W p l e (rmOf 4 123) s m args below meth c H locs 0 0 Q (F0 m 458 ls [.int (iI (if (p9 % 2) = 1 then ((e1 0) + (((e1 3) - (e1 0)) / 2)) + 1 else e1 0)), .ref (ad 46)]) := ?_
                            · skip
                              refine bz_eq (tgt := 457) hx hb d_Mo_partAll_447 (by decide) (fun h125 => ?_) (fun h125 => ?_)
                              · skip
                                refine lv_iload_n hx hb d_Mo_partAll_457 rfl (lv_at hl 3 rfl) ?_
                                refine topi_eq (show (iI (e1 0) : Int32) = iI (if (p9 % 2) = 1 then ((e1 0) + (((e1 3) - (e1 0)) / 2)) + 1 else e1 0) by first | rfl | exact (bI_t (by assumption)).symm | exact (bI_f (by assumption)).symm | exact (bI_f (fun z => z (by assumption))).symm | (rw [if_neg h125]; done) | (rw [if_neg h125]; rfl) | (simp only [if_neg h125]; done) | (simp only [if_neg h125]; rfl)) ?_
                                exact hJ124 _ _ _ (by first | exact hM | (simp only [if_neg h125]; exact hM)) (by first | exact lv_sub hl [1, 2, 3, 4, 5, 6, 7, 8, 9, 10, 11, 12, 13, 14, 15, 0] rfl | (simp only [if_neg h125]; exact lv_sub hl [1, 2, 3, 4, 5, 6, 7, 8, 9, 10, 11, 12, 13, 14, 15, 0] rfl))
                              · skip
                                refine lv_iload hx hb d_Mo_partAll_450 (lv_at hl 10 rfl) ?_
                                refine lv_iconst (v := 1) hx hb d_Mo_partAll_452 (by decide) ?_
                                refine lv_iadd hx hb d_Mo_partAll_453 ?_
                                refine topi_eq (iI_add ((e1 0) + (((e1 3) - (e1 0)) / 2)) 1) ?_
                                refine lv_goto (tgt := 458) hx hb d_Mo_partAll_454 (by decide) ?_
                                refine topi_eq (show (iI (((e1 0) + (((e1 3) - (e1 0)) / 2)) + 1) : Int32) = iI (if (p9 % 2) = 1 then ((e1 0) + (((e1 3) - (e1 0)) / 2)) + 1 else e1 0) by first | rfl | exact (bI_t (by assumption)).symm | exact (bI_f (by assumption)).symm | exact (bI_f (fun z => z (by assumption))).symm | (rw [if_pos h125]; done) | (rw [if_pos h125]; rfl) | (simp only [if_pos h125]; done) | (simp only [if_pos h125]; rfl)) ?_
                                exact hJ124 _ _ _ (by first | exact hM | (simp only [if_pos h125]; exact hM)) (by first | exact lv_sub hl [1, 2, 3, 4, 5, 6, 7, 8, 9, 10, 11, 12, 13, 14, 15, 0] rfl | (simp only [if_pos h125]; exact lv_sub hl [1, 2, 3, 4, 5, 6, 7, 8, 9, 10, 11, 12, 13, 14, 15, 0] rfl))
                            intro H locs ls hM hl
                            refine lv_iload hx hb d_Mo_partAll_458 (lv_at hl 14 rfl) ?_
                            have hJ126 : ∀ (H : Heap) (locs : List Loc) (ls : Array Slot), MO D cT ad (upd (upd (upd (upd (upd (upd I 28 (iI (A 0))) 29 (iI (A 1))) 30 (iI (A 2))) 31 (iI (A 3))) 32 (iI ((A 4) + 1))) 27 (nI Wp.length)) J3 (va_up a 26 f2) g3 s.heap H locs → lv_has ls 17 [(0, .ref (ad 46)), (1, .int (nI b)), (3, .int (iI (e1 0))), (4, .int (iI (e1 1))), (5, .int (iI (e1 2))), (6, .int (iI (e1 3))), (7, .int (iI (e1 4))), (8, .int (iI (e1 5))), (9, .int (iI (e1 6))), (10, .int (iI ((e1 0) + (((e1 3) - (e1 0)) / 2)))), (11, .int (iI ((e1 1) + (((e1 4) - (e1 1)) / 2)))), (12, .int (iI ((e1 2) + (((e1 5) - (e1 2)) / 2)))), (13, .int (nI p9)), (14, .int (bI ((p9 % 2) = 1))), (15, .int (bI ((2 * (p9 / 2 % 2)) = 2))), (16, .int (bI ((4 * (p9 / 4 % 2)) = 4)))] → W p l e (rmOf 4 123) s m args below meth c H locs 0 0 Q (F0 m 472 ls [.int (iI (if (2 * (p9 / 2 % 2)) = 2 then ((e1 1) + (((e1 4) - (e1 1)) / 2)) + 1 else e1 1)), .int (iI (if (p9 % 2) = 1 then ((e1 0) + (((e1 3) - (e1 0)) / 2)) + 1 else e1 0)), .ref (ad 46)]) := ?_
                            · skip
                              refine bz_eq (tgt := 470) hx hb d_Mo_partAll_460 (by decide) (fun h127 => ?_) (fun h127 => ?_)
                              · skip
                                refine lv_iload hx hb d_Mo_partAll_470 (lv_at hl 3 rfl) ?_
                                refine topi_eq (show (iI (e1 1) : Int32) = iI (if (2 * (p9 / 2 % 2)) = 2 then ((e1 1) + (((e1 4) - (e1 1)) / 2)) + 1 else e1 1) by first | rfl | exact (bI_t (by assumption)).symm | exact (bI_f (by assumption)).symm | exact (bI_f (fun z => z (by assumption))).symm | (rw [if_neg h127]; done) | (rw [if_neg h127]; rfl) | (simp only [if_neg h127]; done) | (simp only [if_neg h127]; rfl)) ?_
                                exact hJ126 _ _ _ (by first | exact hM | (simp only [if_neg h127]; exact hM)) (by first | exact lv_sub hl [0, 1, 2, 3, 4, 5, 6, 7, 8, 9, 10, 11, 12, 13, 14, 15] rfl | (simp only [if_neg h127]; exact lv_sub hl [0, 1, 2, 3, 4, 5, 6, 7, 8, 9, 10, 11, 12, 13, 14, 15] rfl))
                              · skip
                                refine lv_iload hx hb d_Mo_partAll_463 (lv_at hl 10 rfl) ?_
                                refine lv_iconst (v := 1) hx hb d_Mo_partAll_465 (by decide) ?_
                                refine lv_iadd hx hb d_Mo_partAll_466 ?_
                                refine topi_eq (iI_add ((e1 1) + (((e1 4) - (e1 1)) / 2)) 1) ?_
                                refine lv_goto (tgt := 472) hx hb d_Mo_partAll_467 (by decide) ?_
                                refine topi_eq (show (iI (((e1 1) + (((e1 4) - (e1 1)) / 2)) + 1) : Int32) = iI (if (2 * (p9 / 2 % 2)) = 2 then ((e1 1) + (((e1 4) - (e1 1)) / 2)) + 1 else e1 1) by first | rfl | exact (bI_t (by assumption)).symm | exact (bI_f (by assumption)).symm | exact (bI_f (fun z => z (by assumption))).symm | (rw [if_pos h127]; done) | (rw [if_pos h127]; rfl) | (simp only [if_pos h127]; done) | (simp only [if_pos h127]; rfl)) ?_
                                exact hJ126 _ _ _ (by first | exact hM | (simp only [if_pos h127]; exact hM)) (by first | exact lv_sub hl [0, 1, 2, 3, 4, 5, 6, 7, 8, 9, 10, 11, 12, 13, 14, 15] rfl | (simp only [if_pos h127]; exact lv_sub hl [0, 1, 2, 3, 4, 5, 6, 7, 8, 9, 10, 11, 12, 13, 14, 15] rfl))
                            intro H locs ls hM hl
                            refine lv_iload hx hb d_Mo_partAll_472 (lv_at hl 15 rfl) ?_
                            have hJ128 : ∀ (H : Heap) (locs : List Loc) (ls : Array Slot), MO D cT ad (upd (upd (upd (upd (upd (upd I 28 (iI (A 0))) 29 (iI (A 1))) 30 (iI (A 2))) 31 (iI (A 3))) 32 (iI ((A 4) + 1))) 27 (nI Wp.length)) J3 (va_up a 26 f2) g3 s.heap H locs → lv_has ls 17 [(0, .ref (ad 46)), (1, .int (nI b)), (3, .int (iI (e1 0))), (4, .int (iI (e1 1))), (5, .int (iI (e1 2))), (6, .int (iI (e1 3))), (7, .int (iI (e1 4))), (8, .int (iI (e1 5))), (9, .int (iI (e1 6))), (10, .int (iI ((e1 0) + (((e1 3) - (e1 0)) / 2)))), (11, .int (iI ((e1 1) + (((e1 4) - (e1 1)) / 2)))), (12, .int (iI ((e1 2) + (((e1 5) - (e1 2)) / 2)))), (13, .int (nI p9)), (14, .int (bI ((p9 % 2) = 1))), (15, .int (bI ((2 * (p9 / 2 % 2)) = 2))), (16, .int (bI ((4 * (p9 / 4 % 2)) = 4)))] → W p l e (rmOf 4 123) s m args below meth c H locs 0 0 Q (F0 m 486 ls [.int (iI (if (4 * (p9 / 4 % 2)) = 4 then ((e1 2) + (((e1 5) - (e1 2)) / 2)) + 1 else e1 2)), .int (iI (if (2 * (p9 / 2 % 2)) = 2 then ((e1 1) + (((e1 4) - (e1 1)) / 2)) + 1 else e1 1)), .int (iI (if (p9 % 2) = 1 then ((e1 0) + (((e1 3) - (e1 0)) / 2)) + 1 else e1 0)), .ref (ad 46)]) := ?_
                            · skip
                              refine bz_eq (tgt := 484) hx hb d_Mo_partAll_474 (by decide) (fun h129 => ?_) (fun h129 => ?_)
                              · skip
                                refine lv_iload hx hb d_Mo_partAll_484 (lv_at hl 4 rfl) ?_
                                refine topi_eq (show (iI (e1 2) : Int32) = iI (if (4 * (p9 / 4 % 2)) = 4 then ((e1 2) + (((e1 5) - (e1 2)) / 2)) + 1 else e1 2) by first | rfl | exact (bI_t (by assumption)).symm | exact (bI_f (by assumption)).symm | exact (bI_f (fun z => z (by assumption))).symm | (rw [if_neg h129]; done) | (rw [if_neg h129]; rfl) | (simp only [if_neg h129]; done) | (simp only [if_neg h129]; rfl)) ?_
                                exact hJ128 _ _ _ (by first | exact hM | (simp only [if_neg h129]; exact hM)) (by first | exact lv_sub hl [0, 1, 2, 3, 4, 5, 6, 7, 8, 9, 10, 11, 12, 13, 14, 15] rfl | (simp only [if_neg h129]; exact lv_sub hl [0, 1, 2, 3, 4, 5, 6, 7, 8, 9, 10, 11, 12, 13, 14, 15] rfl))
                              · skip
                                refine lv_iload hx hb d_Mo_partAll_477 (lv_at hl 11 rfl) ?_
                                refine lv_iconst (v := 1) hx hb d_Mo_partAll_479 (by decide) ?_
                                refine lv_iadd hx hb d_Mo_partAll_480 ?_
                                refine topi_eq (iI_add ((e1 2) + (((e1 5) - (e1 2)) / 2)) 1) ?_
                                refine lv_goto (tgt := 486) hx hb d_Mo_partAll_481 (by decide) ?_
                                refine topi_eq (show (iI (((e1 2) + (((e1 5) - (e1 2)) / 2)) + 1) : Int32) = iI (if (4 * (p9 / 4 % 2)) = 4 then ((e1 2) + (((e1 5) - (e1 2)) / 2)) + 1 else e1 2) by first | rfl | exact (bI_t (by assumption)).symm | exact (bI_f (by assumption)).symm | exact (bI_f (fun z => z (by assumption))).symm | (rw [if_pos h129]; done) | (rw [if_pos h129]; rfl) | (simp only [if_pos h129]; done) | (simp only [if_pos h129]; rfl)) ?_
                                exact hJ128 _ _ _ (by first | exact hM | (simp only [if_pos h129]; exact hM)) (by first | exact lv_sub hl [0, 1, 2, 3, 4, 5, 6, 7, 8, 9, 10, 11, 12, 13, 14, 15] rfl | (simp only [if_pos h129]; exact lv_sub hl [0, 1, 2, 3, 4, 5, 6, 7, 8, 9, 10, 11, 12, 13, 14, 15] rfl))
                            intro H locs ls hM hl
                            refine lv_iload hx hb d_Mo_partAll_486 (lv_at hl 13 rfl) ?_
                            have hJ130 : ∀ (H : Heap) (locs : List Loc) (ls : Array Slot), MO D cT ad (upd (upd (upd (upd (upd (upd I 28 (iI (A 0))) 29 (iI (A 1))) 30 (iI (A 2))) 31 (iI (A 3))) 32 (iI ((A 4) + 1))) 27 (nI Wp.length)) J3 (va_up a 26 f2) g3 s.heap H locs → lv_has ls 17 [(0, .ref (ad 46)), (1, .int (nI b)), (3, .int (iI (e1 0))), (4, .int (iI (e1 1))), (5, .int (iI (e1 2))), (6, .int (iI (e1 3))), (7, .int (iI (e1 4))), (8, .int (iI (e1 5))), (9, .int (iI (e1 6))), (10, .int (iI ((e1 0) + (((e1 3) - (e1 0)) / 2)))), (11, .int (iI ((e1 1) + (((e1 4) - (e1 1)) / 2)))), (12, .int (iI ((e1 2) + (((e1 5) - (e1 2)) / 2)))), (13, .int (nI p9)), (14, .int (bI ((p9 % 2) = 1))), (15, .int (bI ((2 * (p9 / 2 % 2)) = 2))), (16, .int (bI ((4 * (p9 / 4 % 2)) = 4)))] → W p l e (rmOf 4 123) s m args below meth c H locs 0 0 Q (F0 m 498 ls [.int (iI (if (p9 % 2) = 1 then e1 3 else (e1 0) + (((e1 3) - (e1 0)) / 2))), .int (iI (if (4 * (p9 / 4 % 2)) = 4 then ((e1 2) + (((e1 5) - (e1 2)) / 2)) + 1 else e1 2)), .int (iI (if (2 * (p9 / 2 % 2)) = 2 then ((e1 1) + (((e1 4) - (e1 1)) / 2)) + 1 else e1 1)), .int (iI (if (p9 % 2) = 1 then ((e1 0) + (((e1 3) - (e1 0)) / 2)) + 1 else e1 0)), .ref (ad 46)]) := ?_
                            · skip
                              refine bz_eq (tgt := 496) hx hb d_Mo_partAll_488 (by decide) (fun h131 => ?_) (fun h131 => ?_)
                              · skip
                                refine lv_iload hx hb d_Mo_partAll_496 (lv_at hl 9 rfl) ?_
                                refine topi_eq (show (iI ((e1 0) + (((e1 3) - (e1 0)) / 2)) : Int32) = iI (if (p9 % 2) = 1 then e1 3 else (e1 0) + (((e1 3) - (e1 0)) / 2)) by first | rfl | exact (bI_t (by assumption)).symm | exact (bI_f (by assumption)).symm | exact (bI_f (fun z => z (by assumption))).symm | (rw [if_neg h131]; done) | (rw [if_neg h131]; rfl) | (simp only [if_neg h131]; done) | (simp only [if_neg h131]; rfl)) ?_
                                exact hJ130 _ _ _ (by first | exact hM | (simp only [if_neg h131]; exact hM)) (by first | exact lv_sub hl [0, 1, 2, 3, 4, 5, 6, 7, 8, 9, 10, 11, 12, 13, 14, 15] rfl | (simp only [if_neg h131]; exact lv_sub hl [0, 1, 2, 3, 4, 5, 6, 7, 8, 9, 10, 11, 12, 13, 14, 15] rfl))
                              · skip
                                refine lv_iload hx hb d_Mo_partAll_491 (lv_at hl 5 rfl) ?_
                                refine lv_goto (tgt := 498) hx hb d_Mo_partAll_493 (by decide) ?_
                                refine topi_eq (show (iI (e1 3) : Int32) = iI (if (p9 % 2) = 1 then e1 3 else (e1 0) + (((e1 3) - (e1 0)) / 2)) by first | rfl | exact (bI_t (by assumption)).symm | exact (bI_f (by assumption)).symm | exact (bI_f (fun z => z (by assumption))).symm | (rw [if_pos h131]; done) | (rw [if_pos h131]; rfl) | (simp only [if_pos h131]; done) | (simp only [if_pos h131]; rfl)) ?_
                                exact hJ130 _ _ _ (by first | exact hM | (simp only [if_pos h131]; exact hM)) (by first | exact lv_sub hl [0, 1, 2, 3, 4, 5, 6, 7, 8, 9, 10, 11, 12, 13, 14, 15] rfl | (simp only [if_pos h131]; exact lv_sub hl [0, 1, 2, 3, 4, 5, 6, 7, 8, 9, 10, 11, 12, 13, 14, 15] rfl))
                            intro H locs ls hM hl
                            refine lv_iload hx hb d_Mo_partAll_498 (lv_at hl 14 rfl) ?_
                            have hJ132 : ∀ (H : Heap) (locs : List Loc) (ls : Array Slot), MO D cT ad (upd (upd (upd (upd (upd (upd I 28 (iI (A 0))) 29 (iI (A 1))) 30 (iI (A 2))) 31 (iI (A 3))) 32 (iI ((A 4) + 1))) 27 (nI Wp.length)) J3 (va_up a 26 f2) g3 s.heap H locs → lv_has ls 17 [(0, .ref (ad 46)), (1, .int (nI b)), (3, .int (iI (e1 0))), (4, .int (iI (e1 1))), (5, .int (iI (e1 2))), (6, .int (iI (e1 3))), (7, .int (iI (e1 4))), (8, .int (iI (e1 5))), (9, .int (iI (e1 6))), (10, .int (iI ((e1 0) + (((e1 3) - (e1 0)) / 2)))), (11, .int (iI ((e1 1) + (((e1 4) - (e1 1)) / 2)))), (12, .int (iI ((e1 2) + (((e1 5) - (e1 2)) / 2)))), (13, .int (nI p9)), (14, .int (bI ((p9 % 2) = 1))), (15, .int (bI ((2 * (p9 / 2 % 2)) = 2))), (16, .int (bI ((4 * (p9 / 4 % 2)) = 4)))] → W p l e (rmOf 4 123) s m args below meth c H locs 0 0 Q (F0 m 510 ls [.int (iI (if (2 * (p9 / 2 % 2)) = 2 then e1 4 else (e1 1) + (((e1 4) - (e1 1)) / 2))), .int (iI (if (p9 % 2) = 1 then e1 3 else (e1 0) + (((e1 3) - (e1 0)) / 2))), .int (iI (if (4 * (p9 / 4 % 2)) = 4 then ((e1 2) + (((e1 5) - (e1 2)) / 2)) + 1 else e1 2)), .int (iI (if (2 * (p9 / 2 % 2)) = 2 then ((e1 1) + (((e1 4) - (e1 1)) / 2)) + 1 else e1 1)), .int (iI (if (p9 % 2) = 1 then ((e1 0) + (((e1 3) - (e1 0)) / 2)) + 1 else e1 0)), .ref (ad 46)]) := ?_
                            · skip
                              refine bz_eq (tgt := 508) hx hb d_Mo_partAll_500 (by decide) (fun h133 => ?_) (fun h133 => ?_)
                              · skip
                                refine lv_iload hx hb d_Mo_partAll_508 (lv_at hl 10 rfl) ?_
                                refine topi_eq (show (iI ((e1 1) + (((e1 4) - (e1 1)) / 2)) : Int32) = iI (if (2 * (p9 / 2 % 2)) = 2 then e1 4 else (e1 1) + (((e1 4) - (e1 1)) / 2)) by first | rfl | exact (bI_t (by assumption)).symm | exact (bI_f (by assumption)).symm | exact (bI_f (fun z => z (by assumption))).symm | (rw [if_neg h133]; done) | (rw [if_neg h133]; rfl) | (simp only [if_neg h133]; done) | (simp only [if_neg h133]; rfl)) ?_
                                exact hJ132 _ _ _ (by first | exact hM | (simp only [if_neg h133]; exact hM)) (by first | exact lv_sub hl [0, 1, 2, 3, 4, 5, 6, 7, 8, 9, 10, 11, 12, 13, 14, 15] rfl | (simp only [if_neg h133]; exact lv_sub hl [0, 1, 2, 3, 4, 5, 6, 7, 8, 9, 10, 11, 12, 13, 14, 15] rfl))
                              · skip
                                refine lv_iload hx hb d_Mo_partAll_503 (lv_at hl 6 rfl) ?_
                                refine lv_goto (tgt := 510) hx hb d_Mo_partAll_505 (by decide) ?_
                                refine topi_eq (show (iI (e1 4) : Int32) = iI (if (2 * (p9 / 2 % 2)) = 2 then e1 4 else (e1 1) + (((e1 4) - (e1 1)) / 2)) by first | rfl | exact (bI_t (by assumption)).symm | exact (bI_f (by assumption)).symm | exact (bI_f (fun z => z (by assumption))).symm | (rw [if_pos h133]; done) | (rw [if_pos h133]; rfl) | (simp only [if_pos h133]; done) | (simp only [if_pos h133]; rfl)) ?_
                                exact hJ132 _ _ _ (by first | exact hM | (simp only [if_pos h133]; exact hM)) (by first | exact lv_sub hl [0, 1, 2, 3, 4, 5, 6, 7, 8, 9, 10, 11, 12, 13, 14, 15] rfl | (simp only [if_pos h133]; exact lv_sub hl [0, 1, 2, 3, 4, 5, 6, 7, 8, 9, 10, 11, 12, 13, 14, 15] rfl))
                            intro H locs ls hM hl
                            refine lv_iload hx hb d_Mo_partAll_510 (lv_at hl 15 rfl) ?_
                            have hJ134 : ∀ (H : Heap) (locs : List Loc) (ls : Array Slot), MO D cT ad (upd (upd (upd (upd (upd (upd I 28 (iI (A 0))) 29 (iI (A 1))) 30 (iI (A 2))) 31 (iI (A 3))) 32 (iI ((A 4) + 1))) 27 (nI Wp.length)) J3 (va_up a 26 f2) g3 s.heap H locs → lv_has ls 17 [(0, .ref (ad 46)), (1, .int (nI b)), (3, .int (iI (e1 0))), (4, .int (iI (e1 1))), (5, .int (iI (e1 2))), (6, .int (iI (e1 3))), (7, .int (iI (e1 4))), (8, .int (iI (e1 5))), (9, .int (iI (e1 6))), (10, .int (iI ((e1 0) + (((e1 3) - (e1 0)) / 2)))), (11, .int (iI ((e1 1) + (((e1 4) - (e1 1)) / 2)))), (12, .int (iI ((e1 2) + (((e1 5) - (e1 2)) / 2)))), (13, .int (nI p9)), (14, .int (bI ((p9 % 2) = 1))), (15, .int (bI ((2 * (p9 / 2 % 2)) = 2))), (16, .int (bI ((4 * (p9 / 4 % 2)) = 4)))] → W p l e (rmOf 4 123) s m args below meth c H locs 0 0 Q (F0 m 522 ls [.int (iI (if (4 * (p9 / 4 % 2)) = 4 then e1 5 else (e1 2) + (((e1 5) - (e1 2)) / 2))), .int (iI (if (2 * (p9 / 2 % 2)) = 2 then e1 4 else (e1 1) + (((e1 4) - (e1 1)) / 2))), .int (iI (if (p9 % 2) = 1 then e1 3 else (e1 0) + (((e1 3) - (e1 0)) / 2))), .int (iI (if (4 * (p9 / 4 % 2)) = 4 then ((e1 2) + (((e1 5) - (e1 2)) / 2)) + 1 else e1 2)), .int (iI (if (2 * (p9 / 2 % 2)) = 2 then ((e1 1) + (((e1 4) - (e1 1)) / 2)) + 1 else e1 1)), .int (iI (if (p9 % 2) = 1 then ((e1 0) + (((e1 3) - (e1 0)) / 2)) + 1 else e1 0)), .ref (ad 46)]) := ?_
                            · skip
                              refine bz_eq (tgt := 520) hx hb d_Mo_partAll_512 (by decide) (fun h135 => ?_) (fun h135 => ?_)
                              · skip
                                refine lv_iload hx hb d_Mo_partAll_520 (lv_at hl 11 rfl) ?_
                                refine topi_eq (show (iI ((e1 2) + (((e1 5) - (e1 2)) / 2)) : Int32) = iI (if (4 * (p9 / 4 % 2)) = 4 then e1 5 else (e1 2) + (((e1 5) - (e1 2)) / 2)) by first | rfl | exact (bI_t (by assumption)).symm | exact (bI_f (by assumption)).symm | exact (bI_f (fun z => z (by assumption))).symm | (rw [if_neg h135]; done) | (rw [if_neg h135]; rfl) | (simp only [if_neg h135]; done) | (simp only [if_neg h135]; rfl)) ?_
                                exact hJ134 _ _ _ (by first | exact hM | (simp only [if_neg h135]; exact hM)) (by first | exact lv_sub hl [0, 1, 2, 3, 4, 5, 6, 7, 8, 9, 10, 11, 12, 13, 14, 15] rfl | (simp only [if_neg h135]; exact lv_sub hl [0, 1, 2, 3, 4, 5, 6, 7, 8, 9, 10, 11, 12, 13, 14, 15] rfl))
                              · skip
                                refine lv_iload hx hb d_Mo_partAll_515 (lv_at hl 7 rfl) ?_
                                refine lv_goto (tgt := 522) hx hb d_Mo_partAll_517 (by decide) ?_
                                refine topi_eq (show (iI (e1 5) : Int32) = iI (if (4 * (p9 / 4 % 2)) = 4 then e1 5 else (e1 2) + (((e1 5) - (e1 2)) / 2)) by first | rfl | exact (bI_t (by assumption)).symm | exact (bI_f (by assumption)).symm | exact (bI_f (fun z => z (by assumption))).symm | (rw [if_pos h135]; done) | (rw [if_pos h135]; rfl) | (simp only [if_pos h135]; done) | (simp only [if_pos h135]; rfl)) ?_
                                exact hJ134 _ _ _ (by first | exact hM | (simp only [if_pos h135]; exact hM)) (by first | exact lv_sub hl [0, 1, 2, 3, 4, 5, 6, 7, 8, 9, 10, 11, 12, 13, 14, 15] rfl | (simp only [if_pos h135]; exact lv_sub hl [0, 1, 2, 3, 4, 5, 6, 7, 8, 9, 10, 11, 12, 13, 14, 15] rfl))
                            intro H locs ls hM hl
                            refine lv_iload hx hb d_Mo_partAll_522 (lv_at hl 8 rfl) ?_
                            refine lv_iconst (v := 1) hx hb d_Mo_partAll_524 (by decide) ?_
                            refine lv_iadd hx hb d_Mo_partAll_525 ?_
                            refine topi_eq (iI_add (e1 6) 1) ?_
                            refine mo_callv (np := 7) hC hK hM (c_Mo_puts l D cT ad (upd (upd (upd (upd (upd (upd I 28 (iI (A 0))) 29 (iI (A 1))) 30 (iI (A 2))) 31 (iI (A 3))) 32 (iI ((A 4) + 1))) 27 (nI Wp.length)) J3 (va_up a 26 f2) g3  (en7 (if (p9 % 2) = 1 then ((e1 0) + (((e1 3) - (e1 0)) / 2)) + 1 else e1 0) (if (2 * (p9 / 2 % 2)) = 2 then ((e1 1) + (((e1 4) - (e1 1)) / 2)) + 1 else e1 1) (if (4 * (p9 / 4 % 2)) = 4 then ((e1 2) + (((e1 5) - (e1 2)) / 2)) + 1 else e1 2) (if (p9 % 2) = 1 then e1 3 else (e1 0) + (((e1 3) - (e1 0)) / 2)) (if (2 * (p9 / 2 % 2)) = 2 then e1 4 else (e1 1) + (((e1 4) - (e1 1)) / 2)) (if (4 * (p9 / 4 % 2)) = 4 then e1 5 else (e1 2) + (((e1 5) - (e1 2)) / 2)) ((e1 6) + 1)) Wp.length rfl (by omega)) rfl ⟨wl_Mo_243, wi_Mo_puts, ws_Mo_puts, wc_Mo_puts, wn_Mo⟩ ⟨by decide, by decide, by decide +kernel⟩ ⟨Nat.le_of_ble_eq_true rfl, Nat.le_of_ble_eq_true rfl⟩ hl.1 rfl (rest := []) rfl (Nat.le_of_ble_eq_true rfl) ⟨Nat.zero_le _, Nat.zero_le _⟩ d_Mo_partAll_526 (fun I136 J136 a136 g136 H locs hp136 hM => ?_)
                            cases hp136
                            rw [upd_upd, bx_uu] at hM
                            refine lv_iinc (v := nI (p9 + 1)) (lv' := [(13, .int (nI (p9 + 1))), (0, .ref (ad 46)), (1, .int (nI b)), (3, .int (iI (e1 0))), (4, .int (iI (e1 1))), (5, .int (iI (e1 2))), (6, .int (iI (e1 3))), (7, .int (iI (e1 4))), (8, .int (iI (e1 5))), (9, .int (iI (e1 6))), (10, .int (iI ((e1 0) + (((e1 3) - (e1 0)) / 2)))), (11, .int (iI ((e1 1) + (((e1 4) - (e1 1)) / 2)))), (12, .int (iI ((e1 2) + (((e1 5) - (e1 2)) / 2)))), (14, .int (bI ((p9 % 2) = 1))), (15, .int (bI ((2 * (p9 / 2 % 2)) = 2))), (16, .int (bI ((4 * (p9 / 4 % 2)) = 4)))]) hx hb d_Mo_partAll_529 hl (k := 12) rfl (nI_add p9 1) (by decide) rfl (fun ls hl => ?_)
                            refine lv_goto (tgt := 357) hx hb d_Mo_partAll_532 (by decide) ?_
                            have hcok : ¬ (p9 % 2 = 1 ∧ e1 0 = e1 3) ∧ ¬ (2 * (p9 / 2 % 2) = 2 ∧ e1 1 = e1 4) ∧ ¬ (4 * (p9 / 4 % 2) = 4 ∧ e1 2 = e1 5) := by omega
                            exact ih357 (p9 + 1) (chd e1 p9 :: Wp) _ _ _ _ (by omega) (by omega) (WR_push hWRp (chd e1 p9)) (⟨chd_ok hv h63 hcok, by rw [show chd e1 p9 6 = e1 6 + 1 from rfl]; omega, hokp⟩) (by simp only [List.length_cons]; omega) (pl_push htp hcok) (hM) (lv_sub hl [1, 2, 3, 4, 5, 6, 7, 8, 9, 10, 11, 12, 0] rfl)
          exact hL357 _ 0 W1 _ _ _ _ (Nat.lt_succ_self _) (by omega) (hWR1) (hok1) (by omega) (by rw [show csum (pae t) e1 0 = zer from rfl, cb_comm, cb_zer (tot_3 hok1)]) (hM) (lv_sub hl [4, 5, 6, 7, 8, 9, 10, 11, 12, 3, 2, 1, 0] rfl)
        refine lv_aload_n hx hb d_Mo_partAll_172 rfl (lv_at hl 8 rfl) ?_
        refine mo_getj hC hK hM 25 wf_Mo_183 rfl rfl (by decide) (v := iL ((spT (t) (bx6 (e1 0) (e1 3) (e1 1) (e1 4) (e1 2) (e1 5))).2)) (hhi_p3) d_Mo_partAll_173 ?_
        refine lv_lconst (v := 0) hx hb d_Mo_partAll_176 (by decide) ?_
        refine zl_lt hx hb ((spT (t) (bx6 (e1 0) (e1 3) (e1 1) (e1 4) (e1 2) (e1 5))).2) 0 (by omega) (by omega) (by omega) (by omega) d_Mo_partAll_177 d_Mo_partAll_178 (tgt := 210) (by decide) (fun h137 => ?_) (fun h137 => ?_)
        · skip
          exact hL210 _ _ _ (by first | exact Or.inl (by assumption) | exact Or.inr (Or.inl (by assumption)) | exact Or.inr (Or.inr ⟨by assumption, by assumption, by assumption⟩)) (hM) (lv_sub hl [8, 9, 6, 5, 4, 3, 2, 1, 0] rfl)
        · skip
          refine lv_aload_n hx hb d_Mo_partAll_181 rfl (lv_at hl 8 rfl) ?_
          refine mo_getj hC hK hM 24 wf_Mo_179 rfl rfl (by decide) (v := iL ((spT (t) (bx6 (e1 0) (e1 3) (e1 1) (e1 4) (e1 2) (e1 5))).1)) (hlo_p3) d_Mo_partAll_182 ?_
          refine lv_lconst (v := 0) hx hb d_Mo_partAll_185 (by decide) ?_
          refine zl_ge hx hb ((spT (t) (bx6 (e1 0) (e1 3) (e1 1) (e1 4) (e1 2) (e1 5))).1) 0 (by omega) (by omega) (by omega) (by omega) d_Mo_partAll_186 d_Mo_partAll_187 (tgt := 210) (by decide) (fun h138 => ?_) (fun h138 => ?_)
          · skip
            exact hL210 _ _ _ (by first | exact Or.inl (by assumption) | exact Or.inr (Or.inl (by assumption)) | exact Or.inr (Or.inr ⟨by assumption, by assumption, by assumption⟩)) (hM) (lv_sub hl [8, 9, 6, 5, 4, 3, 2, 1, 0] rfl)
          · skip
            refine lv_iload_n hx hb d_Mo_partAll_190 rfl (lv_at hl 6 rfl) ?_
            refine lv_iload hx hb d_Mo_partAll_191 (lv_at hl 3 rfl) ?_
            refine zc_ne hx hb (e1 0) (e1 3) (by omega) (by omega) (by omega) (by omega) d_Mo_partAll_193 (tgt := 320) (by decide) (fun h139 => ?_) (fun h139 => ?_)
            · skip
              have hx1 : ¬ (spT t (bxe e1)).2 < 0 := by assumption
              have hx2 : (spT t (bxe e1)).1 < 0 := by assumption
              exact hL320 _ _ _ (by rintro (q9 | q9 | ⟨q1, q2, q3⟩); all_goals first | exact hx1 q9 | exact q9 hx2 | omega) (hM) (lv_sub hl [8, 9, 6, 5, 4, 3, 2, 1, 0] rfl)
            · skip
              refine lv_iload hx hb d_Mo_partAll_196 (lv_at hl 5 rfl) ?_
              refine lv_iload hx hb d_Mo_partAll_198 (lv_at hl 2 rfl) ?_
              refine zc_ne hx hb (e1 1) (e1 4) (by omega) (by omega) (by omega) (by omega) d_Mo_partAll_200 (tgt := 320) (by decide) (fun h140 => ?_) (fun h140 => ?_)
              · skip
                have hx1 : ¬ (spT t (bxe e1)).2 < 0 := by assumption
                have hx2 : (spT t (bxe e1)).1 < 0 := by assumption
                exact hL320 _ _ _ (by rintro (q9 | q9 | ⟨q1, q2, q3⟩); all_goals first | exact hx1 q9 | exact q9 hx2 | omega) (hM) (lv_sub hl [8, 9, 6, 5, 4, 3, 2, 1, 0] rfl)
              · skip
                refine lv_iload hx hb d_Mo_partAll_203 (lv_at hl 4 rfl) ?_
                refine lv_iload hx hb d_Mo_partAll_205 (lv_at hl 1 rfl) ?_
                refine zc_ne hx hb (e1 2) (e1 5) (by omega) (by omega) (by omega) (by omega) d_Mo_partAll_207 (tgt := 320) (by decide) (fun h141 => ?_) (fun h141 => ?_)
                · skip
                  have hx1 : ¬ (spT t (bxe e1)).2 < 0 := by assumption
                  have hx2 : (spT t (bxe e1)).1 < 0 := by assumption
                  exact hL320 _ _ _ (by rintro (q9 | q9 | ⟨q1, q2, q3⟩); all_goals first | exact hx1 q9 | exact q9 hx2 | omega) (hM) (lv_sub hl [8, 9, 6, 5, 4, 3, 2, 1, 0] rfl)
                · skip
                  exact hL210 _ _ _ (by first | exact Or.inl (by assumption) | exact Or.inr (Or.inl (by assumption)) | exact Or.inr (Or.inr ⟨by assumption, by assumption, by assumption⟩)) (hM) (lv_sub hl [8, 9, 6, 5, 4, 3, 2, 1, 0] rfl)
  exact hL47 _ zer ([rt0]) _ _ _ _ _ _ (Nat.lt_succ_self _) (WR_push (W := []) (fun j e h => by simp at h) rt0) (⟨rt0_ok, by decide, trivial⟩) (by rw [tot_one (pae_3 rt0_ok), cb_comm, cb_zer (pae_3 rt0_ok)]) (by decide) (hM) (lv_sub hl [0, 1] rfl)
