/-! the reference: spans -/
theorem PR_congr {g g' : Nat → Nat → Int64} {L : List (Int × Int)} (h : PR g L) (h1 : ∀ j, j < L.length → g' 22 j = g 22 j ∧ g' 23 j = g 23 j) : PR g' L := by
  intro j v hj
  have hl := (List.getElem?_eq_some_iff.mp hj).1
  rw [List.length_reverse] at hl
  rw [(h1 j hl).1, (h1 j hl).2]
  exact h j v hj
theorem pil_succ {kd : Nat → Nat} {nb Bx : Nat → Nat → Int} {many n k : Nat} (hk : k = many - (n + 1)) : pil kd nb Bx many (n + 1) = stp (kd k) (lfL (kd k) (nb k) (Bx k), lfH (kd k) (nb k) (Bx k)) (pil kd nb Bx many n) := by rw [hk]; rfl
theorem stp_leaf {kd : Nat} {v : Int × Int} {L : List (Int × Int)} (h : kd < 3) : stp kd v L = v :: L := if_pos h
theorem stp_one {kd : Nat} {v : Int × Int} {L : List (Int × Int)} (h1 : ¬ kd < 3) (h : ¬ kd < 6) : stp kd v L = L := by unfold stp; rw [if_neg h1, if_neg h]
theorem stp_two {kd : Nat} {v p q : Int × Int} {R : List (Int × Int)} (h1 : ¬ kd < 3) (h : kd < 6) : stp kd v (p :: q :: R) = cmb kd p q :: R := by unfold stp; rw [if_neg h1, if_pos h]
theorem two_of {α : Type} {L : List α} (h : 2 ≤ L.length) : ∃ p q R, L = p :: q :: R := by
  match L, h with
  | p :: q :: R, _ => exact ⟨p, q, R, rfl⟩
theorem one_of {α : Type} {L : List α} (h : L.length = 1) : ∃ p, L = [p] := by
  match L, h with
  | [p], _ => exact ⟨p, rfl⟩
theorem bx_next {g : Nat → Nat → Int64} {Bx : Nat → Nat → Int} {B : Nat → Int} {k : Nat} (h : ∀ i, i < 6 → ∀ j, j < k → g (16 + i) j = iL (Bx j i)) {i : Nat} (hi : i < 6) (hB : ∀ i, Bx k i = B i) (j : Nat) (hj : j < k + 1) : gbox g k B (16 + i) j = iL (Bx j i) := by
  rw [gbox_at g k B hi j]
  by_cases e : j = k
  · rw [if_pos e, e, hB]
  · rw [if_neg e]
    exact h i hi j (by omega)
theorem bx_first {g : Nat → Nat → Int64} {Bx : Nat → Nat → Int} (h0 : g 16 0 = iL (Bx 0 0)) (h1 : g 17 0 = iL (Bx 0 1)) (h2 : g 18 0 = iL (Bx 0 2)) (h3 : g 19 0 = iL (Bx 0 3)) (h4 : g 20 0 = iL (Bx 0 4)) (h5 : g 21 0 = iL (Bx 0 5)) : ∀ i, i < 6 → ∀ j, j < 1 → g (16 + i) j = iL (Bx j i) := by
  intro i hi j hj
  obtain rfl : j = 0 := by omega
  rcases (show i = 0 ∨ i = 1 ∨ i = 2 ∨ i = 3 ∨ i = 4 ∨ i = 5 by omega) with rfl | rfl | rfl | rfl | rfl | rfl <;> assumption
theorem pln_le (kd : Nat → Nat) (many : Nat) : ∀ n, pln kd many n ≤ n
  | 0 => Nat.le_refl 0
  | n + 1 => by
    have ih := pln_le kd many n
    unfold pln
    split
    · omega
    · split <;> omega
set_option maxHeartbeats 2000000 in
set_option maxRecDepth 100000 in
theorem c_Mo_spans (l : Launch) (D : va_G) (cT : Nat → ClassId) (ad : Nat → Nat) (I : Nat → Int32) (J : Nat → Int64) (a : Nat → Nat → Int32) (g : Nat → Nat → Int64) (b : Nat) (many : Nat) (kd : Nat → Nat) (nb : Nat → Nat → Int) (ab : Nat → Nat) (B : Nat → Int) (hb8 : b < 8) (hBD : BD a b many kd nb ab) (bB : ∀ i, -1000 ≤ B i ∧ B i ≤ 1000) : MMv l D cT ad y_Mo_spans b_Mo_spans 27 none 3 77 [.int (nI b), .long (iL (B 0)), .long (iL (B 2)), .long (iL (B 4)), .long (iL (B 1)), .long (iL (B 3)), .long (iL (B 5))] I J a g (fun u => u.1 = I ∧ u.2.2.1 = a ∧ u.2.1 24 = iL (spn kd nb ab many B).1 ∧ u.2.1 25 = iL (spn kd nb ab many B).2) := by
  refine mo_entv (by decide) rfl (Nat.le_of_ble_eq_true rfl) ?_
  intro p e s m args below meth c Q hC hK hM hret ls hl
  have hx := hC.1
  have hb := hC.2.1
  replace hl : lv_has ls 27 [(0, .ref (ad 46)), (1, .int (nI b)), (2, .long (iL (B 0))), (4, .long (iL (B 2))), (6, .long (iL (B 4))), (8, .long (iL (B 1))), (10, .long (iL (B 3))), (12, .long (iL (B 5)))] := hl
  obtain ⟨hmany, hm1, hm64, hkd, hab, hnb, bnb, hrep, hsh, hend⟩ := hBD
  obtain ⟨Bx, hBx⟩ : ∃ Bx, Bx = bxr kd nb ab B 64 := ⟨_, rfl⟩
  have bBx : ∀ k, k < many → ∀ i, -3000 ≤ Bx k i ∧ Bx k i ≤ 3000 := fun k hk i => by rw [hBx]; have := bxr_b (fun k h0 h1 => (hab k h0 h1).2) bnb hrep bB 64 k hk i; omega
  have hlen := fun n hn => pil_len (nb := nb) (Bx := Bx) hsh n hn
  have hpb := fun n hn => pil_b (kd := kd) (nb := nb) (Bx := Bx) (many := many) bnb bBx n hn
  refine lv_aload_n hx hb d_Mo_spans_0 rfl (lv_at hl 0 rfl) ?_
  refine mo_getr hC hK hM 1 wf_Mo_7 rfl (by decide) (by decide) d_Mo_spans_1 ?_
  refine lv_iload_n hx hb d_Mo_spans_4 rfl (lv_at hl 1 rfl) ?_
  refine mo_ialdN hC hK hM 1 b (by decide) rfl (n := 8) rfl (by decide) (i := nI b) (rfl) (by omega) (v := nI many) (hmany) d_Mo_spans_5 ?_
  refine lv_istore (lv' := [(14, .int (nI many)), (0, .ref (ad 46)), (1, .int (nI b)), (2, .long (iL (B 0))), (4, .long (iL (B 2))), (6, .long (iL (B 4))), (8, .long (iL (B 1))), (10, .long (iL (B 3))), (12, .long (iL (B 5)))]) hx hb d_Mo_spans_6 hl (by decide) rfl (fun ls hl => ?_)
  refine lv_aload_n hx hb d_Mo_spans_8 rfl (lv_at hl 1 rfl) ?_
  refine mo_getr hC hK hM 16 wf_Mo_31 rfl (by decide) (by decide) d_Mo_spans_9 ?_
  refine lv_iconst (v := 0) hx hb d_Mo_spans_12 (by decide) ?_
  refine lv_lload_n hx hb d_Mo_spans_13 rfl (lv_at hl 3 rfl) ?_
  refine mo_lastN hC hK hM 16 0 (by decide) rfl (n := 64) rfl (by decide) (i := 0) (x := iL (B 0)) (rfl) (by decide) d_Mo_spans_14 (fun H locs hM => ?_)
  refine lv_aload_n hx hb d_Mo_spans_15 rfl (lv_at hl 1 rfl) ?_
  refine mo_getr hC hK hM 17 wf_Mo_35 rfl (by decide) (by decide) d_Mo_spans_16 ?_
  refine lv_iconst (v := 0) hx hb d_Mo_spans_19 (by decide) ?_
  refine lv_lload hx hb d_Mo_spans_20 (lv_at hl 6 rfl) ?_
  refine mo_lastN hC hK hM 17 0 (by decide) rfl (n := 64) rfl (by decide) (i := 0) (x := iL (B 1)) (rfl) (by decide) d_Mo_spans_22 (fun H locs hM => ?_)
  replace hM : MO D cT ad I J a (va_up (va_up g 16 (vp_updL (g 16) 0 (iL (B 0)))) 17 (vp_updL (g 17) 0 (iL (B 1)))) s.heap H locs := hM
  refine lv_aload_n hx hb d_Mo_spans_23 rfl (lv_at hl 1 rfl) ?_
  refine mo_getr hC hK hM 18 wf_Mo_38 rfl (by decide) (by decide) d_Mo_spans_24 ?_
  refine lv_iconst (v := 0) hx hb d_Mo_spans_27 (by decide) ?_
  refine lv_lload hx hb d_Mo_spans_28 (lv_at hl 4 rfl) ?_
  refine mo_lastN hC hK hM 18 0 (by decide) rfl (n := 64) rfl (by decide) (i := 0) (x := iL (B 2)) (rfl) (by decide) d_Mo_spans_30 (fun H locs hM => ?_)
  replace hM : MO D cT ad I J a (va_up (va_up (va_up g 16 (vp_updL (g 16) 0 (iL (B 0)))) 17 (vp_updL (g 17) 0 (iL (B 1)))) 18 (vp_updL (g 18) 0 (iL (B 2)))) s.heap H locs := hM
  refine lv_aload_n hx hb d_Mo_spans_31 rfl (lv_at hl 1 rfl) ?_
  refine mo_getr hC hK hM 19 wf_Mo_41 rfl (by decide) (by decide) d_Mo_spans_32 ?_
  refine lv_iconst (v := 0) hx hb d_Mo_spans_35 (by decide) ?_
  refine lv_lload hx hb d_Mo_spans_36 (lv_at hl 7 rfl) ?_
  refine mo_lastN hC hK hM 19 0 (by decide) rfl (n := 64) rfl (by decide) (i := 0) (x := iL (B 3)) (rfl) (by decide) d_Mo_spans_38 (fun H locs hM => ?_)
  replace hM : MO D cT ad I J a (va_up (va_up (va_up (va_up g 16 (vp_updL (g 16) 0 (iL (B 0)))) 17 (vp_updL (g 17) 0 (iL (B 1)))) 18 (vp_updL (g 18) 0 (iL (B 2)))) 19 (vp_updL (g 19) 0 (iL (B 3)))) s.heap H locs := hM
  refine lv_aload_n hx hb d_Mo_spans_39 rfl (lv_at hl 1 rfl) ?_
  refine mo_getr hC hK hM 20 wf_Mo_44 rfl (by decide) (by decide) d_Mo_spans_40 ?_
  refine lv_iconst (v := 0) hx hb d_Mo_spans_43 (by decide) ?_
  refine lv_lload hx hb d_Mo_spans_44 (lv_at hl 5 rfl) ?_
  refine mo_lastN hC hK hM 20 0 (by decide) rfl (n := 64) rfl (by decide) (i := 0) (x := iL (B 4)) (rfl) (by decide) d_Mo_spans_46 (fun H locs hM => ?_)
  replace hM : MO D cT ad I J a (va_up (va_up (va_up (va_up (va_up g 16 (vp_updL (g 16) 0 (iL (B 0)))) 17 (vp_updL (g 17) 0 (iL (B 1)))) 18 (vp_updL (g 18) 0 (iL (B 2)))) 19 (vp_updL (g 19) 0 (iL (B 3)))) 20 (vp_updL (g 20) 0 (iL (B 4)))) s.heap H locs := hM
  refine lv_aload_n hx hb d_Mo_spans_47 rfl (lv_at hl 1 rfl) ?_
  refine mo_getr hC hK hM 21 wf_Mo_47 rfl (by decide) (by decide) d_Mo_spans_48 ?_
  refine lv_iconst (v := 0) hx hb d_Mo_spans_51 (by decide) ?_
  refine lv_lload hx hb d_Mo_spans_52 (lv_at hl 8 rfl) ?_
  refine mo_lastN hC hK hM 21 0 (by decide) rfl (n := 64) rfl (by decide) (i := 0) (x := iL (B 5)) (rfl) (by decide) d_Mo_spans_54 (fun H locs hM => ?_)
  replace hM : MO D cT ad I J a (va_up (va_up (va_up (va_up (va_up (va_up g 16 (vp_updL (g 16) 0 (iL (B 0)))) 17 (vp_updL (g 17) 0 (iL (B 1)))) 18 (vp_updL (g 18) 0 (iL (B 2)))) 19 (vp_updL (g 19) 0 (iL (B 3)))) 20 (vp_updL (g 20) 0 (iL (B 4)))) 21 (vp_updL (g 21) 0 (iL (B 5)))) s.heap H locs := hM
  refine lv_iconst (v := 1) hx hb d_Mo_spans_55 (by decide) ?_
  refine lv_istore (lv' := [(15, .int 1), (14, .int (nI many)), (0, .ref (ad 46)), (1, .int (nI b)), (2, .long (iL (B 0))), (4, .long (iL (B 2))), (6, .long (iL (B 4))), (8, .long (iL (B 1))), (10, .long (iL (B 3))), (12, .long (iL (B 5)))]) hx hb d_Mo_spans_56 hl (by decide) rfl (fun ls hl => ?_)
  have hL58 : ∀ (nn : Nat) (k : Nat) (g1 : Nat → Nat → Int64) (H : Heap) (locs : List Loc) (ls : Array Slot), many - k < nn → (1 ≤ k ∧ k ≤ many) → (∀ i, i < 6 → ∀ j, j < k → g1 (16 + i) j = iL (Bx j i)) → MO D cT ad I J a g1 s.heap H locs → lv_has ls 27 [(0, .ref (ad 46)), (1, .int (nI b)), (14, .int (nI many)), (15, .int (nI k))] → W p l e (rmOf 3 77) s m args below meth c H locs 0 0 Q (F0 m 58 ls []) := by
    intro nn
    induction nn with
    | zero =>
      intro k g1 H locs ls hmeas58 hk1 hB hM hl
      exact absurd hmeas58 (Nat.not_lt_zero _)
    | succ nn ih58 =>
      intro k g1 H locs ls hmeas58 hk1 hB hM hl
      refine lv_iload hx hb d_Mo_spans_58 (lv_at hl 3 rfl) ?_
      refine lv_iload hx hb d_Mo_spans_60 (lv_at hl 2 rfl) ?_
      refine nc_ge hx hb k many (by omega) (by omega) d_Mo_spans_62 (tgt := 78) (by decide) (fun h1 => ?_) (fun h1 => ?_)
      · skip
        have hB2 : ∀ i, i < 6 → ∀ j, j < many → g1 (16 + i) j = iL (Bx j i) := fun i hi j hj => hB i hi j (by omega)
        refine lv_iconst (v := 0) hx hb d_Mo_spans_78 (by decide) ?_
        refine lv_istore (lv' := [(15, .int 0), (0, .ref (ad 46)), (1, .int (nI b)), (14, .int (nI many))]) hx hb d_Mo_spans_79 hl (by decide) rfl (fun ls hl => ?_)
        refine lv_iload hx hb d_Mo_spans_81 (lv_at hl 3 rfl) ?_
        refine lv_iconst (v := 1) hx hb d_Mo_spans_83 (by decide) ?_
        refine lv_isub hx hb d_Mo_spans_84 ?_
        refine topi_eq (iI_sub (↑many : Int) 1) ?_
        refine lv_istore (lv' := [(16, .int (iI ((↑many : Int) - 1))), (15, .int 0), (0, .ref (ad 46)), (1, .int (nI b)), (14, .int (nI many))]) hx hb d_Mo_spans_85 hl (by decide) rfl (fun ls hl => ?_)
        have hL87 : ∀ (nn : Nat) (n : Nat) (J2 : Nat → Int64) (g2 : Nat → Nat → Int64) (L : List (Int × Int)) (H : Heap) (locs : List Loc) (ls : Array Slot), many - n < nn → (n ≤ many) → (∀ i, i < 6 → ∀ j, j < many → g2 (16 + i) j = iL (Bx j i)) → (L = pil kd nb Bx many n) → (PR g2 L) → MO D cT ad I J2 a g2 s.heap H locs → lv_has ls 27 [(0, .ref (ad 46)), (1, .int (nI b)), (15, .int (nI L.length)), (16, .int (iI ((many : Int) - (n : Int) - 1)))] → W p l e (rmOf 3 77) s m args below meth c H locs 0 0 Q (F0 m 87 ls []) := by
          intro nn
          induction nn with
          | zero =>
            intro n J2 g2 L H locs ls hmeas87 hn hB2 hL hPR hM hl
            exact absurd hmeas87 (Nat.not_lt_zero _)
          | succ nn ih87 =>
            intro n J2 g2 L H locs ls hmeas87 hn hB2 hL hPR hM hl
            refine lv_iload hx hb d_Mo_spans_87 (lv_at hl 3 rfl) ?_
            refine zz_lt hx hb ((many : Int) - (n : Int) - 1) (by omega) (by omega) d_Mo_spans_89 (tgt := 322) (by decide) (fun h2 => ?_) (fun h2 => ?_)
            · skip
              obtain rfl : n = many := by omega
              have hL1 : L.length = 1 := by rw [hL, hlen n hn, hend]
              obtain ⟨v, rfl⟩ := one_of hL1
              obtain ⟨v1, v2⟩ := hPR 0 v rfl
              refine lv_aload_n hx hb d_Mo_spans_322 rfl (lv_at hl 0 rfl) ?_
              refine lv_aload_n hx hb d_Mo_spans_323 rfl (lv_at hl 0 rfl) ?_
              refine mo_getr hC hK hM 22 wf_Mo_50 rfl (by decide) (by decide) d_Mo_spans_324 ?_
              refine lv_iconst (v := 0) hx hb d_Mo_spans_327 (by decide) ?_
              refine mo_laldN hC hK hM 22 0 (by decide) rfl (n := 64) rfl (by decide) (i := 0) (rfl) (by decide) (v := iL v.1) (v1) d_Mo_spans_328 ?_
              refine mo_putj hC hK hM 24 wf_Mo_179 rfl rfl (by decide) rfl (by decide +kernel) (x := iL v.1) d_Mo_spans_329 (fun H locs hM => ?_)
              refine lv_aload_n hx hb d_Mo_spans_332 rfl (lv_at hl 0 rfl) ?_
              refine lv_aload_n hx hb d_Mo_spans_333 rfl (lv_at hl 0 rfl) ?_
              refine mo_getr hC hK hM 23 wf_Mo_53 rfl (by decide) (by decide) d_Mo_spans_334 ?_
              refine lv_iconst (v := 0) hx hb d_Mo_spans_337 (by decide) ?_
              refine mo_laldN hC hK hM 23 0 (by decide) rfl (n := 64) rfl (by decide) (i := 0) (rfl) (by decide) (v := iL v.2) (v2) d_Mo_spans_338 ?_
              refine mo_putj hC hK hM 25 wf_Mo_183 rfl rfl (by decide) rfl (by decide +kernel) (x := iL v.2) d_Mo_spans_339 (fun H locs hM => ?_)
              refine hret _ _ _ _ _ _ _ _ d_Mo_spans_342 hM ?_
              refine ⟨rfl, rfl, ?_, ?_⟩
              · unfold spn; rw [← hBx, ← hL]; rfl
              · unfold spn; rw [← hBx, ← hL]; rfl
            · skip
              obtain ⟨k, hk⟩ : ∃ k, k = many - (n + 1) := ⟨_, rfl⟩
              have hkm : k < many := by omega
              rw [show iI ((many : Int) - (n : Int) - 1) = nI k from iI_nI (by omega)] at hl
              have hkd9 := (hkd k hkm).2
              have hlL : L.length ≤ n := by rw [hL, hlen n hn]; exact pln_le kd many n
              refine lv_aload_n hx hb d_Mo_spans_92 rfl (lv_at hl 0 rfl) ?_
              refine mo_getr hC hK hM 2 wf_Mo_13 rfl (by decide) (by decide) d_Mo_spans_93 ?_
              refine lv_bipush (v := 64) hx hb d_Mo_spans_96 (by decide) ?_
              refine lv_iload_n hx hb d_Mo_spans_98 rfl (lv_at hl 1 rfl) ?_
              refine lv_imul hx hb d_Mo_spans_99 ?_
              refine topi_eq (pk_mul 64 b) ?_
              refine lv_iload hx hb d_Mo_spans_100 (lv_at hl 3 rfl) ?_
              refine lv_iadd hx hb d_Mo_spans_102 ?_
              refine topi_eq (nI_add (64 * b) k) ?_
              refine mo_ialdN hC hK hM 2 ((64 * b) + k) (by decide) rfl (n := 512) rfl (by decide) (i := nI ((64 * b) + k)) (rfl) (by omega) (v := nI (kd k)) ((hkd k (by omega)).1) d_Mo_spans_103 ?_
              refine lv_istore (lv' := [(17, .int (nI (kd k))), (0, .ref (ad 46)), (1, .int (nI b)), (15, .int (nI L.length)), (16, .int (nI k))]) hx hb d_Mo_spans_104 hl (by decide) rfl (fun ls hl => ?_)
              refine lv_iload hx hb d_Mo_spans_106 (lv_at hl 0 rfl) ?_
              refine lv_iconst (v := 3) hx hb d_Mo_spans_108 (by decide) ?_
              refine nc_ge hx hb (kd k) 3 (by omega) (by omega) d_Mo_spans_109 (tgt := 147) (by decide) (fun h3 => ?_) (fun h3 => ?_)
              · skip
                refine lv_iload hx hb d_Mo_spans_147 (lv_at hl 0 rfl) ?_
                refine lv_bipush (v := 6) hx hb d_Mo_spans_149 (by decide) ?_
                refine nc_ge hx hb (kd k) 6 (by omega) (by omega) d_Mo_spans_151 (tgt := 316) (by decide) (fun h4 => ?_) (fun h4 => ?_)
                · skip
                  refine lv_iinc (v := iI ((↑k : Int) + (-1))) (lv' := [(16, .int (iI ((↑k : Int) + (-1)))), (17, .int (nI (kd k))), (0, .ref (ad 46)), (1, .int (nI b)), (15, .int (nI L.length))]) hx hb d_Mo_spans_316 hl (k := 4) rfl (iI_add (↑k : Int) (-1)) (by decide) rfl (fun ls hl => ?_)
                  refine lv_goto (tgt := 87) hx hb d_Mo_spans_319 (by decide) ?_
                  exact ih87 (n + 1) _ _ L _ _ _ (by omega) (by omega) (hB2) (by rw [pil_succ hk, ← hL, stp_one (by assumption) (by assumption)]) (hPR) (hM) (by rw [show ((many : Int) - ((n + 1 : Nat) : Int) - 1) = (↑k : Int) + (-1) by omega]; exact lv_sub hl [2, 3, 4, 0] rfl)
                · skip
                  have h2L : 2 ≤ L.length := by rw [hL, hlen n hn]; exact hsh n (by omega) (by rw [← hk]; omega) (by rw [← hk]; omega)
                  obtain ⟨pp, qq, R, rfl⟩ := two_of h2L
                  obtain ⟨⟨k1, k2⟩, ⟨k3, k4⟩, hPR2⟩ := PR_top hPR
                  have hpp := hpb n hn pp (by rw [← hL]; exact List.mem_cons_self)
                  have hqq := hpb n hn qq (by rw [← hL]; exact List.mem_cons_of_mem _ List.mem_cons_self)
                  unfold vb at hpp hqq
                  have hl2 : (pp :: qq :: R).length = R.length + 1 + 1 := rfl
                  rw [hl2] at hl hlL
                  refine lv_iinc (v := iI ((↑(R.length + 1 + 1) : Int) + (-1))) (lv' := [(15, .int (iI ((↑(R.length + 1 + 1) : Int) + (-1)))), (17, .int (nI (kd k))), (0, .ref (ad 46)), (1, .int (nI b)), (16, .int (nI k))]) hx hb d_Mo_spans_154 hl (k := 3) rfl (iI_add (↑(R.length + 1 + 1) : Int) (-1)) (by decide) rfl (fun ls hl => ?_)
                  rw [show iI ((↑(R.length + 1 + 1) : Int) + (-1)) = nI (R.length + 1) from iI_nI (by omega)] at hl
                  refine lv_aload_n hx hb d_Mo_spans_157 rfl (lv_at hl 2 rfl) ?_
                  refine mo_getr hC hK hM 22 wf_Mo_50 rfl (by decide) (by decide) d_Mo_spans_158 ?_
                  refine lv_iload hx hb d_Mo_spans_161 (lv_at hl 0 rfl) ?_
                  refine mo_laldN hC hK hM 22 (R.length + 1) (by decide) rfl (n := 64) rfl (by decide) (i := nI (R.length + 1)) (rfl) (by omega) (v := iL pp.1) (k1) d_Mo_spans_163 ?_
                  refine lv_lstore (lv' := [(18, .long (iL pp.1)), (15, .int (nI (R.length + 1))), (17, .int (nI (kd k))), (0, .ref (ad 46)), (1, .int (nI b)), (16, .int (nI k))]) hx hb d_Mo_spans_164 hl (by decide) rfl (fun ls hl => ?_)
                  refine lv_aload_n hx hb d_Mo_spans_166 rfl (lv_at hl 3 rfl) ?_
                  refine mo_getr hC hK hM 23 wf_Mo_53 rfl (by decide) (by decide) d_Mo_spans_167 ?_
                  refine lv_iload hx hb d_Mo_spans_170 (lv_at hl 1 rfl) ?_
                  refine mo_laldN hC hK hM 23 (R.length + 1) (by decide) rfl (n := 64) rfl (by decide) (i := nI (R.length + 1)) (rfl) (by omega) (v := iL pp.2) (k2) d_Mo_spans_172 ?_
                  refine lv_lstore (lv' := [(20, .long (iL pp.2)), (18, .long (iL pp.1)), (15, .int (nI (R.length + 1))), (17, .int (nI (kd k))), (0, .ref (ad 46)), (1, .int (nI b)), (16, .int (nI k))]) hx hb d_Mo_spans_173 hl (by decide) rfl (fun ls hl => ?_)
                  refine lv_iload hx hb d_Mo_spans_175 (lv_at hl 3 rfl) ?_
                  refine lv_iconst (v := 5) hx hb d_Mo_spans_177 (by decide) ?_
                  have hJ5 : ∀ (H : Heap) (locs : List Loc) (ls : Array Slot), MO D cT ad I J2 a g2 s.heap H locs → lv_has ls 27 [(0, .ref (ad 46)), (1, .int (nI b)), (15, .int (nI (R.length + 1))), (16, .int (nI k)), (17, .int (nI (kd k))), (18, .long (iL pp.1)), (20, .long (iL pp.2))] → W p l e (rmOf 3 77) s m args below meth c H locs 0 0 Q (F0 m 203 ls [.long (iL (if (kd k) = 5 then -qq.2 else qq.1))]) := ?_
                  · skip
                    refine nc_ne hx hb (kd k) 5 (by omega) (by omega) d_Mo_spans_178 (tgt := 194) (by decide) (fun h6 => ?_) (fun h6 => ?_)
                    · skip
                      refine lv_aload_n hx hb d_Mo_spans_194 rfl (lv_at hl 4 rfl) ?_
                      refine mo_getr hC hK hM 22 wf_Mo_50 rfl (by decide) (by decide) d_Mo_spans_195 ?_
                      refine lv_iload hx hb d_Mo_spans_198 (lv_at hl 2 rfl) ?_
                      refine lv_iconst (v := 1) hx hb d_Mo_spans_200 (by decide) ?_
                      refine lv_isub hx hb d_Mo_spans_201 ?_
                      refine topi_eq (iI_sub (↑(R.length + 1) : Int) 1) ?_
                      refine mo_laldN hC hK hM 22 R.length (by decide) rfl (n := 64) rfl (by decide) (i := iI ((↑(R.length + 1) : Int) - 1)) (iI_nI (by omega)) (by omega) (v := iL qq.1) (k3) d_Mo_spans_202 ?_
                      refine topl_eq (show (iL qq.1 : Int64) = iL (if (kd k) = 5 then -qq.2 else qq.1) by first | rfl | exact (bI_t (by assumption)).symm | exact (bI_f (by assumption)).symm | exact (bI_f (fun z => z (by assumption))).symm | (rw [if_neg h6]; done) | (rw [if_neg h6]; rfl) | (simp only [if_neg h6]; done) | (simp only [if_neg h6]; rfl)) ?_
                      exact hJ5 _ _ _ (by first | exact hM | (simp only [if_neg h6]; exact hM)) (by first | exact lv_sub hl [4, 5, 2, 6, 3, 1, 0] rfl | (simp only [if_neg h6]; exact lv_sub hl [4, 5, 2, 6, 3, 1, 0] rfl))
                    · skip
                      refine lv_aload_n hx hb d_Mo_spans_181 rfl (lv_at hl 4 rfl) ?_
                      refine mo_getr hC hK hM 23 wf_Mo_53 rfl (by decide) (by decide) d_Mo_spans_182 ?_
                      refine lv_iload hx hb d_Mo_spans_185 (lv_at hl 2 rfl) ?_
                      refine lv_iconst (v := 1) hx hb d_Mo_spans_187 (by decide) ?_
                      refine lv_isub hx hb d_Mo_spans_188 ?_
                      refine topi_eq (iI_sub (↑(R.length + 1) : Int) 1) ?_
                      refine mo_laldN hC hK hM 23 R.length (by decide) rfl (n := 64) rfl (by decide) (i := iI ((↑(R.length + 1) : Int) - 1)) (iI_nI (by omega)) (by omega) (v := iL qq.2) (k4) d_Mo_spans_189 ?_
                      refine lv_lneg hx hb d_Mo_spans_190 ?_
                      refine topl_eq (iL_neg qq.2) ?_
                      refine lv_goto (tgt := 203) hx hb d_Mo_spans_191 (by decide) ?_
                      refine topl_eq (show (iL (-qq.2) : Int64) = iL (if (kd k) = 5 then -qq.2 else qq.1) by first | rfl | exact (bI_t (by assumption)).symm | exact (bI_f (by assumption)).symm | exact (bI_f (fun z => z (by assumption))).symm | (rw [if_pos h6]; done) | (rw [if_pos h6]; rfl) | (simp only [if_pos h6]; done) | (simp only [if_pos h6]; rfl)) ?_
                      exact hJ5 _ _ _ (by first | exact hM | (simp only [if_pos h6]; exact hM)) (by first | exact lv_sub hl [4, 5, 2, 6, 3, 1, 0] rfl | (simp only [if_pos h6]; exact lv_sub hl [4, 5, 2, 6, 3, 1, 0] rfl))
                  intro H locs ls hM hl
                  refine lv_lstore (lv' := [(22, .long (iL (if (kd k) = 5 then -qq.2 else qq.1))), (0, .ref (ad 46)), (1, .int (nI b)), (15, .int (nI (R.length + 1))), (16, .int (nI k)), (17, .int (nI (kd k))), (18, .long (iL pp.1)), (20, .long (iL pp.2))]) hx hb d_Mo_spans_203 hl (by decide) rfl (fun ls hl => ?_)
                  refine lv_iload hx hb d_Mo_spans_205 (lv_at hl 5 rfl) ?_
                  refine lv_iconst (v := 5) hx hb d_Mo_spans_207 (by decide) ?_
                  have hJ7 : ∀ (H : Heap) (locs : List Loc) (ls : Array Slot), MO D cT ad I J2 a g2 s.heap H locs → lv_has ls 27 [(0, .ref (ad 46)), (1, .int (nI b)), (15, .int (nI (R.length + 1))), (16, .int (nI k)), (17, .int (nI (kd k))), (18, .long (iL pp.1)), (20, .long (iL pp.2)), (22, .long (iL (if (kd k) = 5 then -qq.2 else qq.1)))] → W p l e (rmOf 3 77) s m args below meth c H locs 0 0 Q (F0 m 233 ls [.long (iL (if (kd k) = 5 then -qq.1 else qq.2))]) := ?_
                  · skip
                    refine nc_ne hx hb (kd k) 5 (by omega) (by omega) d_Mo_spans_208 (tgt := 224) (by decide) (fun h8 => ?_) (fun h8 => ?_)
                    · skip
                      refine lv_aload_n hx hb d_Mo_spans_224 rfl (lv_at hl 1 rfl) ?_
                      refine mo_getr hC hK hM 23 wf_Mo_53 rfl (by decide) (by decide) d_Mo_spans_225 ?_
                      refine lv_iload hx hb d_Mo_spans_228 (lv_at hl 3 rfl) ?_
                      refine lv_iconst (v := 1) hx hb d_Mo_spans_230 (by decide) ?_
                      refine lv_isub hx hb d_Mo_spans_231 ?_
                      refine topi_eq (iI_sub (↑(R.length + 1) : Int) 1) ?_
                      refine mo_laldN hC hK hM 23 R.length (by decide) rfl (n := 64) rfl (by decide) (i := iI ((↑(R.length + 1) : Int) - 1)) (iI_nI (by omega)) (by omega) (v := iL qq.2) (k4) d_Mo_spans_232 ?_
                      refine topl_eq (show (iL qq.2 : Int64) = iL (if (kd k) = 5 then -qq.1 else qq.2) by first | rfl | exact (bI_t (by assumption)).symm | exact (bI_f (by assumption)).symm | exact (bI_f (fun z => z (by assumption))).symm | (rw [if_neg h8]; done) | (rw [if_neg h8]; rfl) | (simp only [if_neg h8]; done) | (simp only [if_neg h8]; rfl)) ?_
                      exact hJ7 _ _ _ (by first | exact hM | (simp only [if_neg h8]; exact hM)) (by first | exact lv_sub hl [1, 2, 3, 4, 5, 6, 7, 0] rfl | (simp only [if_neg h8]; exact lv_sub hl [1, 2, 3, 4, 5, 6, 7, 0] rfl))
                    · skip
                      refine lv_aload_n hx hb d_Mo_spans_211 rfl (lv_at hl 1 rfl) ?_
                      refine mo_getr hC hK hM 22 wf_Mo_50 rfl (by decide) (by decide) d_Mo_spans_212 ?_
                      refine lv_iload hx hb d_Mo_spans_215 (lv_at hl 3 rfl) ?_
                      refine lv_iconst (v := 1) hx hb d_Mo_spans_217 (by decide) ?_
                      refine lv_isub hx hb d_Mo_spans_218 ?_
                      refine topi_eq (iI_sub (↑(R.length + 1) : Int) 1) ?_
                      refine mo_laldN hC hK hM 22 R.length (by decide) rfl (n := 64) rfl (by decide) (i := iI ((↑(R.length + 1) : Int) - 1)) (iI_nI (by omega)) (by omega) (v := iL qq.1) (k3) d_Mo_spans_219 ?_
                      refine lv_lneg hx hb d_Mo_spans_220 ?_
                      refine topl_eq (iL_neg qq.1) ?_
                      refine lv_goto (tgt := 233) hx hb d_Mo_spans_221 (by decide) ?_
                      refine topl_eq (show (iL (-qq.1) : Int64) = iL (if (kd k) = 5 then -qq.1 else qq.2) by first | rfl | exact (bI_t (by assumption)).symm | exact (bI_f (by assumption)).symm | exact (bI_f (fun z => z (by assumption))).symm | (rw [if_pos h8]; done) | (rw [if_pos h8]; rfl) | (simp only [if_pos h8]; done) | (simp only [if_pos h8]; rfl)) ?_
                      exact hJ7 _ _ _ (by first | exact hM | (simp only [if_pos h8]; exact hM)) (by first | exact lv_sub hl [1, 2, 3, 4, 5, 6, 7, 0] rfl | (simp only [if_pos h8]; exact lv_sub hl [1, 2, 3, 4, 5, 6, 7, 0] rfl))
                  intro H locs ls hM hl
                  refine lv_lstore (lv' := [(24, .long (iL (if (kd k) = 5 then -qq.1 else qq.2))), (0, .ref (ad 46)), (1, .int (nI b)), (15, .int (nI (R.length + 1))), (16, .int (nI k)), (17, .int (nI (kd k))), (18, .long (iL pp.1)), (20, .long (iL pp.2)), (22, .long (iL (if (kd k) = 5 then -qq.2 else qq.1)))]) hx hb d_Mo_spans_233 hl (by decide) rfl (fun ls hl => ?_)
                  refine lv_iload hx hb d_Mo_spans_235 (lv_at hl 5 rfl) ?_
                  refine lv_iconst (v := 3) hx hb d_Mo_spans_237 (by decide) ?_
                  refine nc_ne hx hb (kd k) 3 (by omega) (by omega) d_Mo_spans_238 (tgt := 245) (by decide) (fun h9 => ?_) (fun h9 => ?_)
                  · skip
                    refine lv_iconst (v := 0) hx hb d_Mo_spans_245 (by decide) ?_
                    refine lv_istore (lv' := [(26, .int 0), (24, .long (iL (if (kd k) = 5 then -qq.1 else qq.2))), (0, .ref (ad 46)), (1, .int (nI b)), (15, .int (nI (R.length + 1))), (16, .int (nI k)), (17, .int (nI (kd k))), (18, .long (iL pp.1)), (20, .long (iL pp.2)), (22, .long (iL (if (kd k) = 5 then -qq.2 else qq.1)))]) hx hb d_Mo_spans_246 hl (by decide) rfl (fun ls hl => ?_)
                    refine lv_aload_n hx hb d_Mo_spans_248 rfl (lv_at hl 2 rfl) ?_
                    refine mo_getr hC hK hM 22 wf_Mo_50 rfl (by decide) (by decide) d_Mo_spans_249 ?_
                    refine lv_iload hx hb d_Mo_spans_252 (lv_at hl 4 rfl) ?_
                    refine lv_iconst (v := 1) hx hb d_Mo_spans_254 (by decide) ?_
                    refine lv_isub hx hb d_Mo_spans_255 ?_
                    refine topi_eq (iI_sub (↑(R.length + 1) : Int) 1) ?_
                    refine lv_iload hx hb d_Mo_spans_256 (lv_at hl 0 rfl) ?_
                    refine lv_lload hx hb d_Mo_spans_258 (lv_at hl 7 rfl) ?_
                    refine lv_lload hx hb d_Mo_spans_260 (lv_at hl 9 rfl) ?_
                    refine zl_ge hx hb pp.1 (if (kd k) = 5 then -qq.2 else qq.1) (by (try split) <;> omega) (by (try split) <;> omega) (by (try split) <;> omega) (by (try split) <;> omega) d_Mo_spans_262 d_Mo_spans_263 (tgt := 270) (by decide) (fun h10 => ?_) (fun h10 => ?_)
                    · skip
                      refine lv_iconst (v := 0) hx hb d_Mo_spans_270 (by decide) ?_
                      refine lv_icmp_ne (tgt := 279) hx hb d_Mo_spans_271 (by decide) (fun h11 => ?_) (fun h11 => ?_)
                      · exact absurd h11 (by decide)
                      · skip
                        refine lv_lload hx hb d_Mo_spans_274 (lv_at hl 7 rfl) ?_
                        refine lv_goto (tgt := 281) hx hb d_Mo_spans_276 (by decide) ?_
                        refine mo_lastN hC hK hM 22 R.length (by decide) rfl (n := 64) rfl (by decide) (i := iI ((↑(R.length + 1) : Int) - 1)) (x := iL pp.1) (iI_nI (by omega)) (by omega) d_Mo_spans_281 (fun H locs hM => ?_)
                        refine lv_aload_n hx hb d_Mo_spans_282 rfl (lv_at hl 2 rfl) ?_
                        refine mo_getr hC hK hM 23 wf_Mo_53 rfl (by decide) (by decide) d_Mo_spans_283 ?_
                        refine lv_iload hx hb d_Mo_spans_286 (lv_at hl 4 rfl) ?_
                        refine lv_iconst (v := 1) hx hb d_Mo_spans_288 (by decide) ?_
                        refine lv_isub hx hb d_Mo_spans_289 ?_
                        refine topi_eq (iI_sub (↑(R.length + 1) : Int) 1) ?_
                        refine lv_iload hx hb d_Mo_spans_290 (lv_at hl 0 rfl) ?_
                        refine lv_lload hx hb d_Mo_spans_292 (lv_at hl 8 rfl) ?_
                        refine lv_lload hx hb d_Mo_spans_294 (lv_at hl 1 rfl) ?_
                        refine zl_ge hx hb pp.2 (if (kd k) = 5 then -qq.1 else qq.2) (by (try split) <;> omega) (by (try split) <;> omega) (by (try split) <;> omega) (by (try split) <;> omega) d_Mo_spans_296 d_Mo_spans_297 (tgt := 304) (by decide) (fun h12 => ?_) (fun h12 => ?_)
                        · skip
                          refine lv_iconst (v := 0) hx hb d_Mo_spans_304 (by decide) ?_
                          refine lv_icmp_ne (tgt := 313) hx hb d_Mo_spans_305 (by decide) (fun h13 => ?_) (fun h13 => ?_)
                          · exact absurd h13 (by decide)
                          · skip
                            refine lv_lload hx hb d_Mo_spans_308 (lv_at hl 8 rfl) ?_
                            refine lv_goto (tgt := 315) hx hb d_Mo_spans_310 (by decide) ?_
                            refine mo_lastN hC hK hM 23 R.length (by decide) rfl (n := 64) rfl (by decide) (i := iI ((↑(R.length + 1) : Int) - 1)) (x := iL pp.2) (iI_nI (by omega)) (by omega) d_Mo_spans_315 (fun H locs hM => ?_)
                            replace hM : MO D cT ad I J2 a (va_up (va_up g2 22 (vp_updL (g2 22) R.length (iL pp.1))) 23 (vp_updL (g2 23) R.length (iL pp.2))) s.heap H locs := hM
                            refine lv_iinc (v := iI ((↑k : Int) + (-1))) (lv' := [(16, .int (iI ((↑k : Int) + (-1)))), (26, .int 0), (24, .long (iL (if (kd k) = 5 then -qq.1 else qq.2))), (0, .ref (ad 46)), (1, .int (nI b)), (15, .int (nI (R.length + 1))), (17, .int (nI (kd k))), (18, .long (iL pp.1)), (20, .long (iL pp.2)), (22, .long (iL (if (kd k) = 5 then -qq.2 else qq.1)))]) hx hb d_Mo_spans_316 hl (k := 5) rfl (iI_add (↑k : Int) (-1)) (by decide) rfl (fun ls hl => ?_)
                            refine lv_goto (tgt := 87) hx hb d_Mo_spans_319 (by decide) ?_
                            exact ih87 (n + 1) _ _ (cmb (kd k) pp qq :: R) _ _ _ (by omega) (by omega) (fun i hi j hj => by rw [← hB2 i hi j hj]; rcases (show i = 0 ∨ i = 1 ∨ i = 2 ∨ i = 3 ∨ i = 4 ∨ i = 5 by omega) with rfl | rfl | rfl | rfl | rfl | rfl <;> rfl) (by rw [pil_succ hk, ← hL, stp_two (by assumption) (by assumption)]) (PR_push hPR2 (fun j hj => ⟨pk_uLn (by omega), pk_uLn (by omega)⟩) ⟨pk_uLs.trans (congrArg iL (by show _ = (if kd k = 3 then (if pp.1 < (if kd k = 5 then -qq.2 else qq.1) then pp.1 else (if kd k = 5 then -qq.2 else qq.1)) else (if pp.1 < (if kd k = 5 then -qq.2 else qq.1) then (if kd k = 5 then -qq.2 else qq.1) else pp.1)); simp only [if_neg h9, if_neg h10, if_neg h12])), pk_uLs.trans (congrArg iL (by show _ = (if kd k = 3 then (if pp.2 < (if kd k = 5 then -qq.1 else qq.2) then pp.2 else (if kd k = 5 then -qq.1 else qq.2)) else (if pp.2 < (if kd k = 5 then -qq.1 else qq.2) then (if kd k = 5 then -qq.1 else qq.2) else pp.2)); simp only [if_neg h9, if_neg h10, if_neg h12]))⟩) (hM) (by rw [show ((many : Int) - ((n + 1 : Nat) : Int) - 1) = (↑k : Int) + (-1) by omega]; exact lv_sub hl [3, 4, 5, 0] rfl)
                        · skip
                          refine lv_iconst (v := 1) hx hb d_Mo_spans_300 (by decide) ?_
                          refine lv_goto (tgt := 305) hx hb d_Mo_spans_301 (by decide) ?_
                          refine lv_icmp_ne (tgt := 313) hx hb d_Mo_spans_305 (by decide) (fun h14 => ?_) (fun h14 => ?_)
                          · skip
                            refine lv_lload hx hb d_Mo_spans_313 (lv_at hl 1 rfl) ?_
                            refine mo_lastN hC hK hM 23 R.length (by decide) rfl (n := 64) rfl (by decide) (i := iI ((↑(R.length + 1) : Int) - 1)) (x := iL (if (kd k) = 5 then -qq.1 else qq.2)) (iI_nI (by omega)) (by omega) d_Mo_spans_315 (fun H locs hM => ?_)
                            replace hM : MO D cT ad I J2 a (va_up (va_up g2 22 (vp_updL (g2 22) R.length (iL pp.1))) 23 (vp_updL (g2 23) R.length (iL (if (kd k) = 5 then -qq.1 else qq.2)))) s.heap H locs := hM
                            refine lv_iinc (v := iI ((↑k : Int) + (-1))) (lv' := [(16, .int (iI ((↑k : Int) + (-1)))), (26, .int 0), (24, .long (iL (if (kd k) = 5 then -qq.1 else qq.2))), (0, .ref (ad 46)), (1, .int (nI b)), (15, .int (nI (R.length + 1))), (17, .int (nI (kd k))), (18, .long (iL pp.1)), (20, .long (iL pp.2)), (22, .long (iL (if (kd k) = 5 then -qq.2 else qq.1)))]) hx hb d_Mo_spans_316 hl (k := 5) rfl (iI_add (↑k : Int) (-1)) (by decide) rfl (fun ls hl => ?_)
                            refine lv_goto (tgt := 87) hx hb d_Mo_spans_319 (by decide) ?_
                            exact ih87 (n + 1) _ _ (cmb (kd k) pp qq :: R) _ _ _ (by omega) (by omega) (fun i hi j hj => by rw [← hB2 i hi j hj]; rcases (show i = 0 ∨ i = 1 ∨ i = 2 ∨ i = 3 ∨ i = 4 ∨ i = 5 by omega) with rfl | rfl | rfl | rfl | rfl | rfl <;> rfl) (by rw [pil_succ hk, ← hL, stp_two (by assumption) (by assumption)]) (PR_push hPR2 (fun j hj => ⟨pk_uLn (by omega), pk_uLn (by omega)⟩) ⟨pk_uLs.trans (congrArg iL (by show _ = (if kd k = 3 then (if pp.1 < (if kd k = 5 then -qq.2 else qq.1) then pp.1 else (if kd k = 5 then -qq.2 else qq.1)) else (if pp.1 < (if kd k = 5 then -qq.2 else qq.1) then (if kd k = 5 then -qq.2 else qq.1) else pp.1)); simp only [if_neg h9, if_neg h10, if_pos h12])), pk_uLs.trans (congrArg iL (by show _ = (if kd k = 3 then (if pp.2 < (if kd k = 5 then -qq.1 else qq.2) then pp.2 else (if kd k = 5 then -qq.1 else qq.2)) else (if pp.2 < (if kd k = 5 then -qq.1 else qq.2) then (if kd k = 5 then -qq.1 else qq.2) else pp.2)); simp only [if_neg h9, if_neg h10, if_pos h12]))⟩) (hM) (by rw [show ((many : Int) - ((n + 1 : Nat) : Int) - 1) = (↑k : Int) + (-1) by omega]; exact lv_sub hl [3, 4, 5, 0] rfl)
                          · exact absurd h14 (by decide)
                    · skip
                      refine lv_iconst (v := 1) hx hb d_Mo_spans_266 (by decide) ?_
                      refine lv_goto (tgt := 271) hx hb d_Mo_spans_267 (by decide) ?_
                      refine lv_icmp_ne (tgt := 279) hx hb d_Mo_spans_271 (by decide) (fun h15 => ?_) (fun h15 => ?_)
                      · skip
                        refine lv_lload hx hb d_Mo_spans_279 (lv_at hl 9 rfl) ?_
                        refine mo_lastN hC hK hM 22 R.length (by decide) rfl (n := 64) rfl (by decide) (i := iI ((↑(R.length + 1) : Int) - 1)) (x := iL (if (kd k) = 5 then -qq.2 else qq.1)) (iI_nI (by omega)) (by omega) d_Mo_spans_281 (fun H locs hM => ?_)
                        refine lv_aload_n hx hb d_Mo_spans_282 rfl (lv_at hl 2 rfl) ?_
                        refine mo_getr hC hK hM 23 wf_Mo_53 rfl (by decide) (by decide) d_Mo_spans_283 ?_
                        refine lv_iload hx hb d_Mo_spans_286 (lv_at hl 4 rfl) ?_
                        refine lv_iconst (v := 1) hx hb d_Mo_spans_288 (by decide) ?_
                        refine lv_isub hx hb d_Mo_spans_289 ?_
                        refine topi_eq (iI_sub (↑(R.length + 1) : Int) 1) ?_
                        refine lv_iload hx hb d_Mo_spans_290 (lv_at hl 0 rfl) ?_
                        refine lv_lload hx hb d_Mo_spans_292 (lv_at hl 8 rfl) ?_
                        refine lv_lload hx hb d_Mo_spans_294 (lv_at hl 1 rfl) ?_
                        refine zl_ge hx hb pp.2 (if (kd k) = 5 then -qq.1 else qq.2) (by (try split) <;> omega) (by (try split) <;> omega) (by (try split) <;> omega) (by (try split) <;> omega) d_Mo_spans_296 d_Mo_spans_297 (tgt := 304) (by decide) (fun h16 => ?_) (fun h16 => ?_)
                        · skip
                          refine lv_iconst (v := 0) hx hb d_Mo_spans_304 (by decide) ?_
                          refine lv_icmp_ne (tgt := 313) hx hb d_Mo_spans_305 (by decide) (fun h17 => ?_) (fun h17 => ?_)
                          · exact absurd h17 (by decide)
                          · skip
                            refine lv_lload hx hb d_Mo_spans_308 (lv_at hl 8 rfl) ?_
                            refine lv_goto (tgt := 315) hx hb d_Mo_spans_310 (by decide) ?_
                            refine mo_lastN hC hK hM 23 R.length (by decide) rfl (n := 64) rfl (by decide) (i := iI ((↑(R.length + 1) : Int) - 1)) (x := iL pp.2) (iI_nI (by omega)) (by omega) d_Mo_spans_315 (fun H locs hM => ?_)
                            replace hM : MO D cT ad I J2 a (va_up (va_up g2 22 (vp_updL (g2 22) R.length (iL (if (kd k) = 5 then -qq.2 else qq.1)))) 23 (vp_updL (g2 23) R.length (iL pp.2))) s.heap H locs := hM
                            refine lv_iinc (v := iI ((↑k : Int) + (-1))) (lv' := [(16, .int (iI ((↑k : Int) + (-1)))), (26, .int 0), (24, .long (iL (if (kd k) = 5 then -qq.1 else qq.2))), (0, .ref (ad 46)), (1, .int (nI b)), (15, .int (nI (R.length + 1))), (17, .int (nI (kd k))), (18, .long (iL pp.1)), (20, .long (iL pp.2)), (22, .long (iL (if (kd k) = 5 then -qq.2 else qq.1)))]) hx hb d_Mo_spans_316 hl (k := 5) rfl (iI_add (↑k : Int) (-1)) (by decide) rfl (fun ls hl => ?_)
                            refine lv_goto (tgt := 87) hx hb d_Mo_spans_319 (by decide) ?_
                            exact ih87 (n + 1) _ _ (cmb (kd k) pp qq :: R) _ _ _ (by omega) (by omega) (fun i hi j hj => by rw [← hB2 i hi j hj]; rcases (show i = 0 ∨ i = 1 ∨ i = 2 ∨ i = 3 ∨ i = 4 ∨ i = 5 by omega) with rfl | rfl | rfl | rfl | rfl | rfl <;> rfl) (by rw [pil_succ hk, ← hL, stp_two (by assumption) (by assumption)]) (PR_push hPR2 (fun j hj => ⟨pk_uLn (by omega), pk_uLn (by omega)⟩) ⟨pk_uLs.trans (congrArg iL (by show _ = (if kd k = 3 then (if pp.1 < (if kd k = 5 then -qq.2 else qq.1) then pp.1 else (if kd k = 5 then -qq.2 else qq.1)) else (if pp.1 < (if kd k = 5 then -qq.2 else qq.1) then (if kd k = 5 then -qq.2 else qq.1) else pp.1)); simp only [if_neg h9, if_pos h10, if_neg h16])), pk_uLs.trans (congrArg iL (by show _ = (if kd k = 3 then (if pp.2 < (if kd k = 5 then -qq.1 else qq.2) then pp.2 else (if kd k = 5 then -qq.1 else qq.2)) else (if pp.2 < (if kd k = 5 then -qq.1 else qq.2) then (if kd k = 5 then -qq.1 else qq.2) else pp.2)); simp only [if_neg h9, if_pos h10, if_neg h16]))⟩) (hM) (by rw [show ((many : Int) - ((n + 1 : Nat) : Int) - 1) = (↑k : Int) + (-1) by omega]; exact lv_sub hl [3, 4, 5, 0] rfl)
                        · skip
                          refine lv_iconst (v := 1) hx hb d_Mo_spans_300 (by decide) ?_
                          refine lv_goto (tgt := 305) hx hb d_Mo_spans_301 (by decide) ?_
                          refine lv_icmp_ne (tgt := 313) hx hb d_Mo_spans_305 (by decide) (fun h18 => ?_) (fun h18 => ?_)
                          · skip
                            refine lv_lload hx hb d_Mo_spans_313 (lv_at hl 1 rfl) ?_
                            refine mo_lastN hC hK hM 23 R.length (by decide) rfl (n := 64) rfl (by decide) (i := iI ((↑(R.length + 1) : Int) - 1)) (x := iL (if (kd k) = 5 then -qq.1 else qq.2)) (iI_nI (by omega)) (by omega) d_Mo_spans_315 (fun H locs hM => ?_)
                            replace hM : MO D cT ad I J2 a (va_up (va_up g2 22 (vp_updL (g2 22) R.length (iL (if (kd k) = 5 then -qq.2 else qq.1)))) 23 (vp_updL (g2 23) R.length (iL (if (kd k) = 5 then -qq.1 else qq.2)))) s.heap H locs := hM
                            refine lv_iinc (v := iI ((↑k : Int) + (-1))) (lv' := [(16, .int (iI ((↑k : Int) + (-1)))), (26, .int 0), (24, .long (iL (if (kd k) = 5 then -qq.1 else qq.2))), (0, .ref (ad 46)), (1, .int (nI b)), (15, .int (nI (R.length + 1))), (17, .int (nI (kd k))), (18, .long (iL pp.1)), (20, .long (iL pp.2)), (22, .long (iL (if (kd k) = 5 then -qq.2 else qq.1)))]) hx hb d_Mo_spans_316 hl (k := 5) rfl (iI_add (↑k : Int) (-1)) (by decide) rfl (fun ls hl => ?_)
                            refine lv_goto (tgt := 87) hx hb d_Mo_spans_319 (by decide) ?_
                            exact ih87 (n + 1) _ _ (cmb (kd k) pp qq :: R) _ _ _ (by omega) (by omega) (fun i hi j hj => by rw [← hB2 i hi j hj]; rcases (show i = 0 ∨ i = 1 ∨ i = 2 ∨ i = 3 ∨ i = 4 ∨ i = 5 by omega) with rfl | rfl | rfl | rfl | rfl | rfl <;> rfl) (by rw [pil_succ hk, ← hL, stp_two (by assumption) (by assumption)]) (PR_push hPR2 (fun j hj => ⟨pk_uLn (by omega), pk_uLn (by omega)⟩) ⟨pk_uLs.trans (congrArg iL (by show _ = (if kd k = 3 then (if pp.1 < (if kd k = 5 then -qq.2 else qq.1) then pp.1 else (if kd k = 5 then -qq.2 else qq.1)) else (if pp.1 < (if kd k = 5 then -qq.2 else qq.1) then (if kd k = 5 then -qq.2 else qq.1) else pp.1)); simp only [if_neg h9, if_pos h10, if_pos h16])), pk_uLs.trans (congrArg iL (by show _ = (if kd k = 3 then (if pp.2 < (if kd k = 5 then -qq.1 else qq.2) then pp.2 else (if kd k = 5 then -qq.1 else qq.2)) else (if pp.2 < (if kd k = 5 then -qq.1 else qq.2) then (if kd k = 5 then -qq.1 else qq.2) else pp.2)); simp only [if_neg h9, if_pos h10, if_pos h16]))⟩) (hM) (by rw [show ((many : Int) - ((n + 1 : Nat) : Int) - 1) = (↑k : Int) + (-1) by omega]; exact lv_sub hl [3, 4, 5, 0] rfl)
                          · exact absurd h18 (by decide)
                      · exact absurd h15 (by decide)
                  · skip
                    refine lv_iconst (v := 1) hx hb d_Mo_spans_241 (by decide) ?_
                    refine lv_goto (tgt := 246) hx hb d_Mo_spans_242 (by decide) ?_
                    refine lv_istore (lv' := [(26, .int 1), (24, .long (iL (if (kd k) = 5 then -qq.1 else qq.2))), (0, .ref (ad 46)), (1, .int (nI b)), (15, .int (nI (R.length + 1))), (16, .int (nI k)), (17, .int (nI (kd k))), (18, .long (iL pp.1)), (20, .long (iL pp.2)), (22, .long (iL (if (kd k) = 5 then -qq.2 else qq.1)))]) hx hb d_Mo_spans_246 hl (by decide) rfl (fun ls hl => ?_)
                    refine lv_aload_n hx hb d_Mo_spans_248 rfl (lv_at hl 2 rfl) ?_
                    refine mo_getr hC hK hM 22 wf_Mo_50 rfl (by decide) (by decide) d_Mo_spans_249 ?_
                    refine lv_iload hx hb d_Mo_spans_252 (lv_at hl 4 rfl) ?_
                    refine lv_iconst (v := 1) hx hb d_Mo_spans_254 (by decide) ?_
                    refine lv_isub hx hb d_Mo_spans_255 ?_
                    refine topi_eq (iI_sub (↑(R.length + 1) : Int) 1) ?_
                    refine lv_iload hx hb d_Mo_spans_256 (lv_at hl 0 rfl) ?_
                    refine lv_lload hx hb d_Mo_spans_258 (lv_at hl 7 rfl) ?_
                    refine lv_lload hx hb d_Mo_spans_260 (lv_at hl 9 rfl) ?_
                    refine zl_ge hx hb pp.1 (if (kd k) = 5 then -qq.2 else qq.1) (by (try split) <;> omega) (by (try split) <;> omega) (by (try split) <;> omega) (by (try split) <;> omega) d_Mo_spans_262 d_Mo_spans_263 (tgt := 270) (by decide) (fun h19 => ?_) (fun h19 => ?_)
                    · skip
                      refine lv_iconst (v := 0) hx hb d_Mo_spans_270 (by decide) ?_
                      refine lv_icmp_ne (tgt := 279) hx hb d_Mo_spans_271 (by decide) (fun h20 => ?_) (fun h20 => ?_)
                      · skip
                        refine lv_lload hx hb d_Mo_spans_279 (lv_at hl 9 rfl) ?_
                        refine mo_lastN hC hK hM 22 R.length (by decide) rfl (n := 64) rfl (by decide) (i := iI ((↑(R.length + 1) : Int) - 1)) (x := iL (if (kd k) = 5 then -qq.2 else qq.1)) (iI_nI (by omega)) (by omega) d_Mo_spans_281 (fun H locs hM => ?_)
                        refine lv_aload_n hx hb d_Mo_spans_282 rfl (lv_at hl 2 rfl) ?_
                        refine mo_getr hC hK hM 23 wf_Mo_53 rfl (by decide) (by decide) d_Mo_spans_283 ?_
                        refine lv_iload hx hb d_Mo_spans_286 (lv_at hl 4 rfl) ?_
                        refine lv_iconst (v := 1) hx hb d_Mo_spans_288 (by decide) ?_
                        refine lv_isub hx hb d_Mo_spans_289 ?_
                        refine topi_eq (iI_sub (↑(R.length + 1) : Int) 1) ?_
                        refine lv_iload hx hb d_Mo_spans_290 (lv_at hl 0 rfl) ?_
                        refine lv_lload hx hb d_Mo_spans_292 (lv_at hl 8 rfl) ?_
                        refine lv_lload hx hb d_Mo_spans_294 (lv_at hl 1 rfl) ?_
                        refine zl_ge hx hb pp.2 (if (kd k) = 5 then -qq.1 else qq.2) (by (try split) <;> omega) (by (try split) <;> omega) (by (try split) <;> omega) (by (try split) <;> omega) d_Mo_spans_296 d_Mo_spans_297 (tgt := 304) (by decide) (fun h21 => ?_) (fun h21 => ?_)
                        · skip
                          refine lv_iconst (v := 0) hx hb d_Mo_spans_304 (by decide) ?_
                          refine lv_icmp_ne (tgt := 313) hx hb d_Mo_spans_305 (by decide) (fun h22 => ?_) (fun h22 => ?_)
                          · skip
                            refine lv_lload hx hb d_Mo_spans_313 (lv_at hl 1 rfl) ?_
                            refine mo_lastN hC hK hM 23 R.length (by decide) rfl (n := 64) rfl (by decide) (i := iI ((↑(R.length + 1) : Int) - 1)) (x := iL (if (kd k) = 5 then -qq.1 else qq.2)) (iI_nI (by omega)) (by omega) d_Mo_spans_315 (fun H locs hM => ?_)
                            replace hM : MO D cT ad I J2 a (va_up (va_up g2 22 (vp_updL (g2 22) R.length (iL (if (kd k) = 5 then -qq.2 else qq.1)))) 23 (vp_updL (g2 23) R.length (iL (if (kd k) = 5 then -qq.1 else qq.2)))) s.heap H locs := hM
                            refine lv_iinc (v := iI ((↑k : Int) + (-1))) (lv' := [(16, .int (iI ((↑k : Int) + (-1)))), (26, .int 1), (24, .long (iL (if (kd k) = 5 then -qq.1 else qq.2))), (0, .ref (ad 46)), (1, .int (nI b)), (15, .int (nI (R.length + 1))), (17, .int (nI (kd k))), (18, .long (iL pp.1)), (20, .long (iL pp.2)), (22, .long (iL (if (kd k) = 5 then -qq.2 else qq.1)))]) hx hb d_Mo_spans_316 hl (k := 5) rfl (iI_add (↑k : Int) (-1)) (by decide) rfl (fun ls hl => ?_)
                            refine lv_goto (tgt := 87) hx hb d_Mo_spans_319 (by decide) ?_
                            exact ih87 (n + 1) _ _ (cmb (kd k) pp qq :: R) _ _ _ (by omega) (by omega) (fun i hi j hj => by rw [← hB2 i hi j hj]; rcases (show i = 0 ∨ i = 1 ∨ i = 2 ∨ i = 3 ∨ i = 4 ∨ i = 5 by omega) with rfl | rfl | rfl | rfl | rfl | rfl <;> rfl) (by rw [pil_succ hk, ← hL, stp_two (by assumption) (by assumption)]) (PR_push hPR2 (fun j hj => ⟨pk_uLn (by omega), pk_uLn (by omega)⟩) ⟨pk_uLs.trans (congrArg iL (by show _ = (if kd k = 3 then (if pp.1 < (if kd k = 5 then -qq.2 else qq.1) then pp.1 else (if kd k = 5 then -qq.2 else qq.1)) else (if pp.1 < (if kd k = 5 then -qq.2 else qq.1) then (if kd k = 5 then -qq.2 else qq.1) else pp.1)); simp only [if_pos h9, if_neg h19, if_neg h21])), pk_uLs.trans (congrArg iL (by show _ = (if kd k = 3 then (if pp.2 < (if kd k = 5 then -qq.1 else qq.2) then pp.2 else (if kd k = 5 then -qq.1 else qq.2)) else (if pp.2 < (if kd k = 5 then -qq.1 else qq.2) then (if kd k = 5 then -qq.1 else qq.2) else pp.2)); simp only [if_pos h9, if_neg h19, if_neg h21]))⟩) (hM) (by rw [show ((many : Int) - ((n + 1 : Nat) : Int) - 1) = (↑k : Int) + (-1) by omega]; exact lv_sub hl [3, 4, 5, 0] rfl)
                          · exact absurd h22 (by decide)
                        · skip
                          refine lv_iconst (v := 1) hx hb d_Mo_spans_300 (by decide) ?_
                          refine lv_goto (tgt := 305) hx hb d_Mo_spans_301 (by decide) ?_
                          refine lv_icmp_ne (tgt := 313) hx hb d_Mo_spans_305 (by decide) (fun h23 => ?_) (fun h23 => ?_)
                          · exact absurd h23 (by decide)
                          · skip
                            refine lv_lload hx hb d_Mo_spans_308 (lv_at hl 8 rfl) ?_
                            refine lv_goto (tgt := 315) hx hb d_Mo_spans_310 (by decide) ?_
                            refine mo_lastN hC hK hM 23 R.length (by decide) rfl (n := 64) rfl (by decide) (i := iI ((↑(R.length + 1) : Int) - 1)) (x := iL pp.2) (iI_nI (by omega)) (by omega) d_Mo_spans_315 (fun H locs hM => ?_)
                            replace hM : MO D cT ad I J2 a (va_up (va_up g2 22 (vp_updL (g2 22) R.length (iL (if (kd k) = 5 then -qq.2 else qq.1)))) 23 (vp_updL (g2 23) R.length (iL pp.2))) s.heap H locs := hM
                            refine lv_iinc (v := iI ((↑k : Int) + (-1))) (lv' := [(16, .int (iI ((↑k : Int) + (-1)))), (26, .int 1), (24, .long (iL (if (kd k) = 5 then -qq.1 else qq.2))), (0, .ref (ad 46)), (1, .int (nI b)), (15, .int (nI (R.length + 1))), (17, .int (nI (kd k))), (18, .long (iL pp.1)), (20, .long (iL pp.2)), (22, .long (iL (if (kd k) = 5 then -qq.2 else qq.1)))]) hx hb d_Mo_spans_316 hl (k := 5) rfl (iI_add (↑k : Int) (-1)) (by decide) rfl (fun ls hl => ?_)
                            refine lv_goto (tgt := 87) hx hb d_Mo_spans_319 (by decide) ?_
                            exact ih87 (n + 1) _ _ (cmb (kd k) pp qq :: R) _ _ _ (by omega) (by omega) (fun i hi j hj => by rw [← hB2 i hi j hj]; rcases (show i = 0 ∨ i = 1 ∨ i = 2 ∨ i = 3 ∨ i = 4 ∨ i = 5 by omega) with rfl | rfl | rfl | rfl | rfl | rfl <;> rfl) (by rw [pil_succ hk, ← hL, stp_two (by assumption) (by assumption)]) (PR_push hPR2 (fun j hj => ⟨pk_uLn (by omega), pk_uLn (by omega)⟩) ⟨pk_uLs.trans (congrArg iL (by show _ = (if kd k = 3 then (if pp.1 < (if kd k = 5 then -qq.2 else qq.1) then pp.1 else (if kd k = 5 then -qq.2 else qq.1)) else (if pp.1 < (if kd k = 5 then -qq.2 else qq.1) then (if kd k = 5 then -qq.2 else qq.1) else pp.1)); simp only [if_pos h9, if_neg h19, if_pos h21])), pk_uLs.trans (congrArg iL (by show _ = (if kd k = 3 then (if pp.2 < (if kd k = 5 then -qq.1 else qq.2) then pp.2 else (if kd k = 5 then -qq.1 else qq.2)) else (if pp.2 < (if kd k = 5 then -qq.1 else qq.2) then (if kd k = 5 then -qq.1 else qq.2) else pp.2)); simp only [if_pos h9, if_neg h19, if_pos h21]))⟩) (hM) (by rw [show ((many : Int) - ((n + 1 : Nat) : Int) - 1) = (↑k : Int) + (-1) by omega]; exact lv_sub hl [3, 4, 5, 0] rfl)
                      · exact absurd h20 (by decide)
                    · skip
                      refine lv_iconst (v := 1) hx hb d_Mo_spans_266 (by decide) ?_
                      refine lv_goto (tgt := 271) hx hb d_Mo_spans_267 (by decide) ?_
                      refine lv_icmp_ne (tgt := 279) hx hb d_Mo_spans_271 (by decide) (fun h24 => ?_) (fun h24 => ?_)
                      · exact absurd h24 (by decide)
                      · skip
                        refine lv_lload hx hb d_Mo_spans_274 (lv_at hl 7 rfl) ?_
                        refine lv_goto (tgt := 281) hx hb d_Mo_spans_276 (by decide) ?_
                        refine mo_lastN hC hK hM 22 R.length (by decide) rfl (n := 64) rfl (by decide) (i := iI ((↑(R.length + 1) : Int) - 1)) (x := iL pp.1) (iI_nI (by omega)) (by omega) d_Mo_spans_281 (fun H locs hM => ?_)
                        refine lv_aload_n hx hb d_Mo_spans_282 rfl (lv_at hl 2 rfl) ?_
                        refine mo_getr hC hK hM 23 wf_Mo_53 rfl (by decide) (by decide) d_Mo_spans_283 ?_
                        refine lv_iload hx hb d_Mo_spans_286 (lv_at hl 4 rfl) ?_
                        refine lv_iconst (v := 1) hx hb d_Mo_spans_288 (by decide) ?_
                        refine lv_isub hx hb d_Mo_spans_289 ?_
                        refine topi_eq (iI_sub (↑(R.length + 1) : Int) 1) ?_
                        refine lv_iload hx hb d_Mo_spans_290 (lv_at hl 0 rfl) ?_
                        refine lv_lload hx hb d_Mo_spans_292 (lv_at hl 8 rfl) ?_
                        refine lv_lload hx hb d_Mo_spans_294 (lv_at hl 1 rfl) ?_
                        refine zl_ge hx hb pp.2 (if (kd k) = 5 then -qq.1 else qq.2) (by (try split) <;> omega) (by (try split) <;> omega) (by (try split) <;> omega) (by (try split) <;> omega) d_Mo_spans_296 d_Mo_spans_297 (tgt := 304) (by decide) (fun h25 => ?_) (fun h25 => ?_)
                        · skip
                          refine lv_iconst (v := 0) hx hb d_Mo_spans_304 (by decide) ?_
                          refine lv_icmp_ne (tgt := 313) hx hb d_Mo_spans_305 (by decide) (fun h26 => ?_) (fun h26 => ?_)
                          · skip
                            refine lv_lload hx hb d_Mo_spans_313 (lv_at hl 1 rfl) ?_
                            refine mo_lastN hC hK hM 23 R.length (by decide) rfl (n := 64) rfl (by decide) (i := iI ((↑(R.length + 1) : Int) - 1)) (x := iL (if (kd k) = 5 then -qq.1 else qq.2)) (iI_nI (by omega)) (by omega) d_Mo_spans_315 (fun H locs hM => ?_)
                            replace hM : MO D cT ad I J2 a (va_up (va_up g2 22 (vp_updL (g2 22) R.length (iL pp.1))) 23 (vp_updL (g2 23) R.length (iL (if (kd k) = 5 then -qq.1 else qq.2)))) s.heap H locs := hM
                            refine lv_iinc (v := iI ((↑k : Int) + (-1))) (lv' := [(16, .int (iI ((↑k : Int) + (-1)))), (26, .int 1), (24, .long (iL (if (kd k) = 5 then -qq.1 else qq.2))), (0, .ref (ad 46)), (1, .int (nI b)), (15, .int (nI (R.length + 1))), (17, .int (nI (kd k))), (18, .long (iL pp.1)), (20, .long (iL pp.2)), (22, .long (iL (if (kd k) = 5 then -qq.2 else qq.1)))]) hx hb d_Mo_spans_316 hl (k := 5) rfl (iI_add (↑k : Int) (-1)) (by decide) rfl (fun ls hl => ?_)
                            refine lv_goto (tgt := 87) hx hb d_Mo_spans_319 (by decide) ?_
                            exact ih87 (n + 1) _ _ (cmb (kd k) pp qq :: R) _ _ _ (by omega) (by omega) (fun i hi j hj => by rw [← hB2 i hi j hj]; rcases (show i = 0 ∨ i = 1 ∨ i = 2 ∨ i = 3 ∨ i = 4 ∨ i = 5 by omega) with rfl | rfl | rfl | rfl | rfl | rfl <;> rfl) (by rw [pil_succ hk, ← hL, stp_two (by assumption) (by assumption)]) (PR_push hPR2 (fun j hj => ⟨pk_uLn (by omega), pk_uLn (by omega)⟩) ⟨pk_uLs.trans (congrArg iL (by show _ = (if kd k = 3 then (if pp.1 < (if kd k = 5 then -qq.2 else qq.1) then pp.1 else (if kd k = 5 then -qq.2 else qq.1)) else (if pp.1 < (if kd k = 5 then -qq.2 else qq.1) then (if kd k = 5 then -qq.2 else qq.1) else pp.1)); simp only [if_pos h9, if_pos h19, if_neg h25])), pk_uLs.trans (congrArg iL (by show _ = (if kd k = 3 then (if pp.2 < (if kd k = 5 then -qq.1 else qq.2) then pp.2 else (if kd k = 5 then -qq.1 else qq.2)) else (if pp.2 < (if kd k = 5 then -qq.1 else qq.2) then (if kd k = 5 then -qq.1 else qq.2) else pp.2)); simp only [if_pos h9, if_pos h19, if_neg h25]))⟩) (hM) (by rw [show ((many : Int) - ((n + 1 : Nat) : Int) - 1) = (↑k : Int) + (-1) by omega]; exact lv_sub hl [3, 4, 5, 0] rfl)
                          · exact absurd h26 (by decide)
                        · skip
                          refine lv_iconst (v := 1) hx hb d_Mo_spans_300 (by decide) ?_
                          refine lv_goto (tgt := 305) hx hb d_Mo_spans_301 (by decide) ?_
                          refine lv_icmp_ne (tgt := 313) hx hb d_Mo_spans_305 (by decide) (fun h27 => ?_) (fun h27 => ?_)
                          · exact absurd h27 (by decide)
                          · skip
                            refine lv_lload hx hb d_Mo_spans_308 (lv_at hl 8 rfl) ?_
                            refine lv_goto (tgt := 315) hx hb d_Mo_spans_310 (by decide) ?_
                            refine mo_lastN hC hK hM 23 R.length (by decide) rfl (n := 64) rfl (by decide) (i := iI ((↑(R.length + 1) : Int) - 1)) (x := iL pp.2) (iI_nI (by omega)) (by omega) d_Mo_spans_315 (fun H locs hM => ?_)
                            replace hM : MO D cT ad I J2 a (va_up (va_up g2 22 (vp_updL (g2 22) R.length (iL pp.1))) 23 (vp_updL (g2 23) R.length (iL pp.2))) s.heap H locs := hM
                            refine lv_iinc (v := iI ((↑k : Int) + (-1))) (lv' := [(16, .int (iI ((↑k : Int) + (-1)))), (26, .int 1), (24, .long (iL (if (kd k) = 5 then -qq.1 else qq.2))), (0, .ref (ad 46)), (1, .int (nI b)), (15, .int (nI (R.length + 1))), (17, .int (nI (kd k))), (18, .long (iL pp.1)), (20, .long (iL pp.2)), (22, .long (iL (if (kd k) = 5 then -qq.2 else qq.1)))]) hx hb d_Mo_spans_316 hl (k := 5) rfl (iI_add (↑k : Int) (-1)) (by decide) rfl (fun ls hl => ?_)
                            refine lv_goto (tgt := 87) hx hb d_Mo_spans_319 (by decide) ?_
                            exact ih87 (n + 1) _ _ (cmb (kd k) pp qq :: R) _ _ _ (by omega) (by omega) (fun i hi j hj => by rw [← hB2 i hi j hj]; rcases (show i = 0 ∨ i = 1 ∨ i = 2 ∨ i = 3 ∨ i = 4 ∨ i = 5 by omega) with rfl | rfl | rfl | rfl | rfl | rfl <;> rfl) (by rw [pil_succ hk, ← hL, stp_two (by assumption) (by assumption)]) (PR_push hPR2 (fun j hj => ⟨pk_uLn (by omega), pk_uLn (by omega)⟩) ⟨pk_uLs.trans (congrArg iL (by show _ = (if kd k = 3 then (if pp.1 < (if kd k = 5 then -qq.2 else qq.1) then pp.1 else (if kd k = 5 then -qq.2 else qq.1)) else (if pp.1 < (if kd k = 5 then -qq.2 else qq.1) then (if kd k = 5 then -qq.2 else qq.1) else pp.1)); simp only [if_pos h9, if_pos h19, if_pos h25])), pk_uLs.trans (congrArg iL (by show _ = (if kd k = 3 then (if pp.2 < (if kd k = 5 then -qq.1 else qq.2) then pp.2 else (if kd k = 5 then -qq.1 else qq.2)) else (if pp.2 < (if kd k = 5 then -qq.1 else qq.2) then (if kd k = 5 then -qq.1 else qq.2) else pp.2)); simp only [if_pos h9, if_pos h19, if_pos h25]))⟩) (hM) (by rw [show ((many : Int) - ((n + 1 : Nat) : Int) - 1) = (↑k : Int) + (-1) by omega]; exact lv_sub hl [3, 4, 5, 0] rfl)
              · skip
                refine lv_aload_n hx hb d_Mo_spans_112 rfl (lv_at hl 1 rfl) ?_
                refine lv_iload_n hx hb d_Mo_spans_113 rfl (lv_at hl 2 rfl) ?_
                refine lv_iload hx hb d_Mo_spans_114 (lv_at hl 4 rfl) ?_
                refine mo_callv (np := 2) hC hK hM (c_Mo_leaf l D cT ad I J2 a g2 b k (kd k) (nb k) (Bx k) hb8 (by omega) (hkd k hkm).1 (by omega) (hnb k hkm) (fun i hi => hB2 i hi k hkm) (bnb k) (bBx k hkm)) rfl ⟨wl_Mo_201, wi_Mo_leaf, ws_Mo_leaf, wc_Mo_leaf, wn_Mo⟩ ⟨by decide, by decide, by decide +kernel⟩ ⟨Nat.le_of_ble_eq_true rfl, Nat.le_of_ble_eq_true rfl⟩ hl.1 rfl (rest := []) rfl (Nat.le_of_ble_eq_true rfl) ⟨Nat.zero_le _, Nat.zero_le _⟩ d_Mo_spans_116 (fun I28 J28 a28 g28 H locs hp28 hM => ?_)
                cases hp28
                refine lv_aload_n hx hb d_Mo_spans_119 rfl (lv_at hl 1 rfl) ?_
                refine mo_getr hC hK hM 22 wf_Mo_50 rfl (by decide) (by decide) d_Mo_spans_120 ?_
                refine lv_iload hx hb d_Mo_spans_123 (lv_at hl 3 rfl) ?_
                refine lv_aload_n hx hb d_Mo_spans_125 rfl (lv_at hl 1 rfl) ?_
                refine mo_getj hC hK hM 24 wf_Mo_179 rfl rfl (by decide) (v := iL (lfL (kd k) (nb k) (Bx k))) (rfl) d_Mo_spans_126 ?_
                refine mo_lastN hC hK hM 22 L.length (by decide) rfl (n := 64) rfl (by decide) (i := nI L.length) (x := iL (lfL (kd k) (nb k) (Bx k))) (rfl) (by omega) d_Mo_spans_129 (fun H locs hM => ?_)
                refine lv_aload_n hx hb d_Mo_spans_130 rfl (lv_at hl 1 rfl) ?_
                refine mo_getr hC hK hM 23 wf_Mo_53 rfl (by decide) (by decide) d_Mo_spans_131 ?_
                refine lv_iload hx hb d_Mo_spans_134 (lv_at hl 3 rfl) ?_
                refine lv_aload_n hx hb d_Mo_spans_136 rfl (lv_at hl 1 rfl) ?_
                refine mo_getj hC hK hM 25 wf_Mo_183 rfl rfl (by decide) (v := iL (lfH (kd k) (nb k) (Bx k))) (rfl) d_Mo_spans_137 ?_
                refine mo_lastN hC hK hM 23 L.length (by decide) rfl (n := 64) rfl (by decide) (i := nI L.length) (x := iL (lfH (kd k) (nb k) (Bx k))) (rfl) (by omega) d_Mo_spans_140 (fun H locs hM => ?_)
                replace hM : MO D cT ad I (vp_updL (vp_updL J2 24 (iL (lfL (kd k) (nb k) (Bx k)))) 25 (iL (lfH (kd k) (nb k) (Bx k)))) a (va_up (va_up g2 22 (vp_updL (g2 22) L.length (iL (lfL (kd k) (nb k) (Bx k))))) 23 (vp_updL (g2 23) L.length (iL (lfH (kd k) (nb k) (Bx k))))) s.heap H locs := hM
                refine lv_iinc (v := nI (L.length + 1)) (lv' := [(15, .int (nI (L.length + 1))), (17, .int (nI (kd k))), (0, .ref (ad 46)), (1, .int (nI b)), (16, .int (nI k))]) hx hb d_Mo_spans_141 hl (k := 3) rfl (nI_add L.length 1) (by decide) rfl (fun ls hl => ?_)
                refine lv_goto (tgt := 316) hx hb d_Mo_spans_144 (by decide) ?_
                refine lv_iinc (v := iI ((↑k : Int) + (-1))) (lv' := [(16, .int (iI ((↑k : Int) + (-1)))), (15, .int (nI (L.length + 1))), (17, .int (nI (kd k))), (0, .ref (ad 46)), (1, .int (nI b))]) hx hb d_Mo_spans_316 hl (k := 4) rfl (iI_add (↑k : Int) (-1)) (by decide) rfl (fun ls hl => ?_)
                refine lv_goto (tgt := 87) hx hb d_Mo_spans_319 (by decide) ?_
                exact ih87 (n + 1) _ _ ((lfL (kd k) (nb k) (Bx k), lfH (kd k) (nb k) (Bx k)) :: L) _ _ _ (by omega) (by omega) (fun i hi j hj => by rw [← hB2 i hi j hj]; rcases (show i = 0 ∨ i = 1 ∨ i = 2 ∨ i = 3 ∨ i = 4 ∨ i = 5 by omega) with rfl | rfl | rfl | rfl | rfl | rfl <;> rfl) (by rw [pil_succ hk, stp_leaf (by assumption), ← hL]) (PR_push hPR (fun j hj => ⟨pk_uLn (by omega), pk_uLn (by omega)⟩) ⟨pk_uLs, pk_uLs⟩) (hM) (by rw [show ((many : Int) - ((n + 1 : Nat) : Int) - 1) = (↑k : Int) + (-1) by omega]; exact lv_sub hl [3, 4, 1, 0] rfl)
        exact hL87 _ 0 _ _ ([]) _ _ _ (Nat.lt_succ_self _) (by omega) (hB2) (rfl) (fun j v h => by simp at h) (hM) (by rw [show ((many : Int) - ((0 : Nat) : Int) - 1) = (many : Int) - 1 by omega]; exact lv_sub hl [2, 3, 1, 0] rfl)
      · skip
        have hk := (hab k (by omega) (by omega)).1
        have hk2 := (hab k (by omega) (by omega)).2
        have hstep : Bx k = dn (kd (ab k)) (nb (ab k)) (Bx (ab k)) := by rw [hBx]; exact bxr_step (fun k h0 h1 => (hab k h0 h1).2) hm64 (by omega) (by omega)
        refine lv_aload_n hx hb d_Mo_spans_65 rfl (lv_at hl 0 rfl) ?_
        refine lv_iload_n hx hb d_Mo_spans_66 rfl (lv_at hl 1 rfl) ?_
        refine lv_iload hx hb d_Mo_spans_67 (lv_at hl 3 rfl) ?_
        refine mo_callv (np := 2) hC hK hM (c_Mo_goDown l D cT ad I J a g1 b k (ab k) (kd (ab k)) (nb (ab k)) (Bx (ab k)) hb8 (by omega) hk2 hk (hkd (ab k) (by omega)).1 (hkd (ab k) (by omega)).2 (hnb (ab k) (by omega)) (fun i hi => hB i hi (ab k) hk2) (bnb (ab k)) (bBx (ab k) (by omega)) (hrep (ab k) (by omega))) rfl ⟨wl_Mo_197, wi_Mo_goDown, ws_Mo_goDown, wc_Mo_goDown, wn_Mo⟩ ⟨by decide, by decide, by decide +kernel⟩ ⟨Nat.le_of_ble_eq_true rfl, Nat.le_of_ble_eq_true rfl⟩ hl.1 rfl (rest := []) rfl (Nat.le_of_ble_eq_true rfl) ⟨Nat.zero_le _, Nat.zero_le _⟩ d_Mo_spans_69 (fun I29 J29 a29 g29 H locs hp29 hM => ?_)
        cases hp29
        refine lv_iinc (v := nI (k + 1)) (lv' := [(15, .int (nI (k + 1))), (0, .ref (ad 46)), (1, .int (nI b)), (14, .int (nI many))]) hx hb d_Mo_spans_72 hl (k := 3) rfl (nI_add k 1) (by decide) rfl (fun ls hl => ?_)
        refine lv_goto (tgt := 58) hx hb d_Mo_spans_75 (by decide) ?_
        exact ih58 (k + 1) _ _ _ _ (by omega) (by omega) (fun i hi j hj => bx_next hB hi (fun i => congrFun hstep i) j hj) (hM) (lv_sub hl [1, 2, 3, 0] rfl)
  exact hL58 _ 1 _ _ _ _ (Nat.lt_succ_self _) (by omega) (bx_first (by rw [hBx]; rfl) (by rw [hBx]; rfl) (by rw [hBx]; rfl) (by rw [hBx]; rfl) (by rw [hBx]; rfl) (by rw [hBx]; rfl)) (hM) (lv_sub hl [2, 3, 1, 0] rfl)
