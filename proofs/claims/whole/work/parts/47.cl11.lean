/-! the class: a piece is taken -/
/-- what the flood keeps between pieces -/
def FK (L PD : Nat → Int32) (lr : Nat) : Prop := R15 L ∧ (∀ q, q < 225 → PD q = 0) ∧ lr ≤ 225 ∧ ∀ q, q < lr → L q = 0
/-- the least place left, and the piece of it taken -/
def TK (L L' : Nat → Int32) (sz : Nat) (en : Int32) : Prop := ∃ f, f < 3375 ∧ bl L f = true ∧ (∀ j, j < f → bl L j = false) ∧ (∀ k, k < 3375 → bl L' k = (bl L k && !cmp (bl L) f k)) ∧ sz = cn (cmp (bl L) f) 3375 ∧ ((en = 1 ∧ ∃ k, k < 3375 ∧ cmp (bl L) f k = true ∧ isE k = true) ∨ (en = 0 ∧ ¬ ∃ k, k < 3375 ∧ cmp (bl L) f k = true ∧ isE k = true))
theorem sub_z {L L' : Nat → Int32} {q : Nat} (hq : q < 225) (hL' : R15 L') (h : ∀ k, k < 3375 → bl L' k = true → bl L k = true) (hz : L q = 0) : L' q = 0 := by
  refine bl_z (hL' q hq) (fun x hx => ?_)
  cases e : bl L' (15 * q + x)
  · rfl
  · have := h _ (by omega) e
    rw [z_bl (by rw [show (15 * q + x) / 15 = q by omega]; exact hz)] at this
    cases this
theorem m1_eq (m : Nat) : iI ((↑(m + 1) : Int) - 1) = nI m := by
  rw [nI_iI]
  congr 1
  omega
set_option maxHeartbeats 2000000 in
set_option maxRecDepth 100000 in
theorem c_Fl_takePiece (l : Launch) (D : va_G) (cT : Nat → ClassId) (X : CX) (I : Nat → Int32) (a : Nat → Nat → Int32)  (L PD SK : Nat → Int32) (lr n sz : Nat) (en : Int32)  (hFK : FK L PD lr) : CMi l D cT X y_Fl_takePiece b_Fl_takePiece 2 (some .boolean) 3 70 [.ref (X.1 5)] (upd (upd (upd (upd I 51 (nI lr)) 54 (nI n)) 55 (nI sz)) 56 en) (va_up (va_up (va_up a 6 L) 7 PD) 8 SK) (fun r u => ∃ L' P' S' lr' n' sz' en', u = (upd (upd (upd (upd I 51 (nI lr')) 54 (nI n')) 55 (nI sz')) 56 en', va_up (va_up (va_up a 6 L') 7 P') 8 S') ∧ FK L' P' lr' ∧ ((r = 0 ∧ (∀ k, k < 3375 → bl L k = false) ∧ L' = L) ∨ (r = 1 ∧ TK L L' sz' en'))) := by
  refine co_entz (own := R_Fl) (by decide) rfl (Nat.le_of_ble_eq_true rfl) ?_
  intro p e s m args below meth c Q hC hK hM hret ls hl
  have hx := hC.1
  have hb := hC.2.1
  replace hl : lv_has ls 2 [(0, .ref (X.1 5))] := hl
  have hL0 : ∀ (nn : Nat) (r1 : Nat) (H : Heap) (locs : List Loc) (ls : Array Slot), 225 - r1 < nn → (r1 ≤ 225) → (∀ q, q < r1 → L q = 0) → CO D cT (CA X) X (upd (upd (upd (upd I 51 (nI r1)) 54 (nI n)) 55 (nI sz)) 56 en) (va_up (va_up (va_up a 6 L) 7 PD) 8 SK) s.heap H locs → lv_has ls 2 [(0, .ref (X.1 5))] → W p l e (rmOf 3 70) s m args below meth c H locs 0 0 Q (F0 m 0 ls []) := by
    intro nn
    induction nn with
    | zero =>
      intro r1 H locs ls hmeas0 hr1 hz1 hM hl
      exact absurd hmeas0 (Nat.not_lt_zero _)
    | succ nn ih0 =>
      intro r1 H locs ls hmeas0 hr1 hz1 hM hl
      refine lv_aload_n hx hb d_Fl_takePiece_0 rfl (lv_at hl 0 rfl) ?_
      refine rd_get hC in_Fl hK hM.1 5 (cw_he (by omega) (cE_5)) rfl 1 (by decide) wf_Fl_15 rfl (v := .int (nI r1)) (congrArg (fun z : Int32 => some (Value.int z)) ((pk_un (by omega)).trans ((pk_un (by omega)).trans ((pk_un (by omega)).trans (pk_us))))) d_Fl_takePiece_1 ?_
      refine lv_sipush (v := 225) hx hb d_Fl_takePiece_4 (by decide) ?_
      refine nc_ge hx hb r1 225 (by omega) (by omega) d_Fl_takePiece_7 (tgt := 35) (by decide) (fun h1 => ?_) (fun h1 => ?_)
      · skip
        refine lv_aload_n hx hb d_Fl_takePiece_35 rfl (lv_at hl 0 rfl) ?_
        refine rd_get hC in_Fl hK hM.1 5 (cw_he (by omega) (cE_5)) rfl 1 (by decide) wf_Fl_15 rfl (v := .int (nI r1)) (congrArg (fun z : Int32 => some (Value.int z)) ((pk_un (by omega)).trans ((pk_un (by omega)).trans ((pk_un (by omega)).trans (pk_us))))) d_Fl_takePiece_36 ?_
        refine lv_sipush (v := 225) hx hb d_Fl_takePiece_39 (by decide) ?_
        refine nc_lt hx hb r1 225 (by omega) (by omega) d_Fl_takePiece_42 (tgt := 47) (by decide) (fun h2 => ?_) (fun h2 => ?_)
        · skip
          obtain ⟨f9, hf1, hf2, hf3, hini⟩ := TI_init (SK := SK) hFK.1 hFK.2.1 (show r1 < 225 by omega) hz1 (by first | assumption | (exfalso; omega))
          refine lv_aload_n hx hb d_Fl_takePiece_47 rfl (lv_at hl 0 rfl) ?_
          refine lv_iconst (v := 0) hx hb d_Fl_takePiece_48 (by decide) ?_
          refine co_put hC in_Fl t_Fl t_Fl_ok n_Fl hK hM 5 (by omega) (cE_5) rfl 4 (by decide) wf_Fl_25 rfl rfl (ty := .int) (by decide +kernel) (x := 0) rfl rfl (Nat.le_of_ble_eq_true rfl) (by decide) (rfl) d_Fl_takePiece_49 (fun H locs hM => ?_)
          replace hM : CO D cT (CA X) X (upd (upd (upd (upd (upd I 51 (nI r1)) 54 (nI n)) 55 (nI sz)) 56 en) 54 0) (va_up (va_up (va_up a 6 L) 7 PD) 8 SK) s.heap H locs := hM
          rw [upd_swap (i := 56) (j := 54) (by omega), upd_swap (i := 55) (j := 54) (by omega), upd_upd] at hM
          refine lv_aload_n hx hb d_Fl_takePiece_52 rfl (lv_at hl 0 rfl) ?_
          refine lv_iconst (v := 0) hx hb d_Fl_takePiece_53 (by decide) ?_
          refine co_put hC in_Fl t_Fl t_Fl_ok n_Fl hK hM 5 (by omega) (cE_5) rfl 5 (by decide) wf_Fl_28 rfl rfl (ty := .int) (by decide +kernel) (x := 0) rfl rfl (Nat.le_of_ble_eq_true rfl) (by decide) (rfl) d_Fl_takePiece_54 (fun H locs hM => ?_)
          replace hM : CO D cT (CA X) X (upd (upd (upd (upd (upd I 51 (nI r1)) 54 0) 55 (nI sz)) 56 en) 55 0) (va_up (va_up (va_up a 6 L) 7 PD) 8 SK) s.heap H locs := hM
          rw [upd_swap (i := 56) (j := 55) (by omega), upd_upd] at hM
          refine lv_aload_n hx hb d_Fl_takePiece_57 rfl (lv_at hl 0 rfl) ?_
          refine lv_iconst (v := 0) hx hb d_Fl_takePiece_58 (by decide) ?_
          refine co_put hC in_Fl t_Fl t_Fl_ok n_Fl hK hM 5 (by omega) (cE_5) rfl 6 (by decide) wf_Fl_31 rfl rfl (ty := .boolean) (by decide +kernel) (x := 0) (vz_in (by first | exact Or.inl rfl | exact Or.inr rfl | exact bI_01 | assumption)).1 (vz_in (by first | exact Or.inl rfl | exact Or.inr rfl | exact bI_01 | assumption)).2 (Nat.le_of_ble_eq_true rfl) (by decide) (rfl) d_Fl_takePiece_59 (fun H locs hM => ?_)
          replace hM : CO D cT (CA X) X (upd (upd (upd (upd (upd I 51 (nI r1)) 54 0) 55 0) 56 en) 56 0) (va_up (va_up (va_up a 6 L) 7 PD) 8 SK) s.heap H locs := hM
          rw [upd_upd] at hM
          refine lv_aload_n hx hb d_Fl_takePiece_62 rfl (lv_at hl 0 rfl) ?_
          refine lv_aload_n hx hb d_Fl_takePiece_63 rfl (lv_at hl 0 rfl) ?_
          refine rd_get hC in_Fl hK hM.1 5 (cw_he (by omega) (cE_5)) rfl 1 (by decide) wf_Fl_15 rfl (v := .int (nI r1)) (congrArg (fun z : Int32 => some (Value.int z)) ((pk_un (by omega)).trans ((pk_un (by omega)).trans ((pk_un (by omega)).trans (pk_us))))) d_Fl_takePiece_64 ?_
          refine st_calli (np := 1) hC (c_Fl_yOf l r1 (by omega)) ⟨wl_Fl_35, wt_Fl_yOf, wc_Fl_yOf, wn_Fl⟩ ⟨by decide, by decide, by decide +kernel⟩ ⟨Nat.le_of_ble_eq_true rfl, Nat.le_of_ble_eq_true rfl⟩ hl.1 rfl (rest := [.ref (X.1 5)]) rfl (Nat.le_of_ble_eq_true rfl) ⟨Nat.zero_le _, Nat.zero_le _⟩ d_Fl_takePiece_67 (fun rr hrr => ?_)
          subst hrr
          refine lv_aload_n hx hb d_Fl_takePiece_70 rfl (lv_at hl 0 rfl) ?_
          refine rd_get hC in_Fl hK hM.1 5 (cw_he (by omega) (cE_5)) rfl 1 (by decide) wf_Fl_15 rfl (v := .int (nI r1)) (congrArg (fun z : Int32 => some (Value.int z)) ((pk_un (by omega)).trans ((pk_un (by omega)).trans ((pk_un (by omega)).trans (pk_us))))) d_Fl_takePiece_71 ?_
          refine st_calli (np := 1) hC (c_Fl_zOf l r1 (by omega)) ⟨wl_Fl_39, wt_Fl_zOf, wc_Fl_zOf, wn_Fl⟩ ⟨by decide, by decide, by decide +kernel⟩ ⟨Nat.le_of_ble_eq_true rfl, Nat.le_of_ble_eq_true rfl⟩ hl.1 rfl (rest := [.int (iI ((↑(r1 % 15) : Int) + (-7))), .ref (X.1 5)]) rfl (Nat.le_of_ble_eq_true rfl) ⟨Nat.zero_le _, Nat.zero_le _⟩ d_Fl_takePiece_74 (fun rr hrr => ?_)
          subst hrr
          refine lv_aload_n hx hb d_Fl_takePiece_77 rfl (lv_at hl 0 rfl) ?_
          refine rd_get hC in_Fl hK hM.1 5 (cw_he (by omega) (cE_5)) rfl 0 (by decide) wf_Fl_9 rfl (v := .ref (X.1 6)) (rfl) d_Fl_takePiece_78 ?_
          refine lv_aload_n hx hb d_Fl_takePiece_81 rfl (lv_at hl 0 rfl) ?_
          refine rd_get hC in_Fl hK hM.1 5 (cw_he (by omega) (cE_5)) rfl 1 (by decide) wf_Fl_15 rfl (v := .int (nI r1)) (congrArg (fun z : Int32 => some (Value.int z)) ((pk_un (by omega)).trans ((pk_un (by omega)).trans ((pk_un (by omega)).trans (pk_us))))) d_Fl_takePiece_82 ?_
          refine rd_iald hC hK hM.1 6 (cw_he (by omega) (cE_6)) r1 (i := nI r1) (rfl) (by omega) (by decide) (v := L r1) (congrFun ((va_up_ne _ _ (by omega)).trans ((va_up_ne _ _ (by omega)).trans (va_up_self _ _ _))) _) d_Fl_takePiece_85 ?_
          refine lv_aload_n hx hb d_Fl_takePiece_86 rfl (lv_at hl 0 rfl) ?_
          refine rd_get hC in_Fl hK hM.1 5 (cw_he (by omega) (cE_5)) rfl 0 (by decide) wf_Fl_9 rfl (v := .ref (X.1 6)) (rfl) d_Fl_takePiece_87 ?_
          refine lv_aload_n hx hb d_Fl_takePiece_90 rfl (lv_at hl 0 rfl) ?_
          refine rd_get hC in_Fl hK hM.1 5 (cw_he (by omega) (cE_5)) rfl 1 (by decide) wf_Fl_15 rfl (v := .int (nI r1)) (congrArg (fun z : Int32 => some (Value.int z)) ((pk_un (by omega)).trans ((pk_un (by omega)).trans ((pk_un (by omega)).trans (pk_us))))) d_Fl_takePiece_91 ?_
          refine rd_iald hC hK hM.1 6 (cw_he (by omega) (cE_6)) r1 (i := nI r1) (rfl) (by omega) (by decide) (v := L r1) (congrFun ((va_up_ne _ _ (by omega)).trans ((va_up_ne _ _ (by omega)).trans (va_up_self _ _ _))) _) d_Fl_takePiece_94 ?_
          refine lv_ineg hx hb d_Fl_takePiece_95 ?_
          refine lv_iand hx hb d_Fl_takePiece_96 ?_
          refine co_callv (np := 3) hC hK hM (k := 5) (by omega) (cE_5) rfl (c_Fl_take l D cT X I a ((↑(r1 % 15) : Int) + (-7)) ((↑(r1 / 15) : Int) + (-7)) ((L r1) &&& (-(L r1))) L PD SK r1 0 0 0 (fun _ _ _ => by omega) (by omega) (by omega) (by omega) (by omega) (by omega)) rfl ⟨wl_Fl_65, wi_Fl_take, ws_Fl_take, wc_Fl_take, wn_Fl⟩ ⟨by decide, by decide, by decide +kernel⟩ ⟨Nat.le_of_ble_eq_true rfl, Nat.le_of_ble_eq_true rfl⟩ hl.1 rfl (rest := []) rfl (Nat.le_of_ble_eq_true rfl) ⟨Nat.zero_le _, Nat.zero_le _⟩ d_Fl_takePiece_97 (fun I3 a3 H locs hp3 hM => ?_)
          obtain ⟨L3, P3, S3, n3, e3, hr3⟩ := hp3
          cases e3
          have hTI0 := hini _ _ _ _ hr3
          refine lv_iconst (v := 0) hx hb d_Fl_takePiece_100 (by decide) ?_
          refine lv_istore_n (lv' := [(1, .int 0), (0, .ref (X.1 5))]) hx hb d_Fl_takePiece_101 rfl hl (by decide) rfl (fun ls hl => ?_)
          have hL102 : ∀ (nn : Nat) (tn : Nat) (L2 : Nat → Int32) (P2 : Nat → Int32) (S2 : Nat → Int32) (n2 : Nat) (sz2 : Nat) (en2 : Int32) (H : Heap) (locs : List Loc) (ls : Array Slot), 3375 - tn < nn → (tn ≤ 3375) → (TI (bl L) f9 L2 P2 S2 n2 sz2 en2 tn) → CO D cT (CA X) X (upd (upd (upd (upd I 51 (nI r1)) 54 (nI n2)) 55 (nI sz2)) 56 en2) (va_up (va_up (va_up a 6 L2) 7 P2) 8 S2) s.heap H locs → lv_has ls 2 [(0, .ref (X.1 5)), (1, .int (nI tn))] → W p l e (rmOf 3 70) s m args below meth c H locs 0 0 Q (F0 m 102 ls []) := by
            intro nn
            induction nn with
            | zero =>
              intro tn L2 P2 S2 n2 sz2 en2 H locs ls hmeas102 htn hTI hM hl
              exact absurd hmeas102 (Nat.not_lt_zero _)
            | succ nn ih102 =>
              intro tn L2 P2 S2 n2 sz2 en2 H locs ls hmeas102 htn hTI hM hl
              refine lv_iload_n hx hb d_Fl_takePiece_102 rfl (lv_at hl 1 rfl) ?_
              refine lv_sipush (v := 3375) hx hb d_Fl_takePiece_103 (by decide) ?_
              refine nc_ge hx hb tn 3375 (by omega) (by omega) d_Fl_takePiece_106 (tgt := 155) (by decide) (fun h4 => ?_) (fun h4 => ?_)
              · skip
                refine lv_iconst (v := 1) hx hb d_Fl_takePiece_155 (by decide) ?_
                refine hret _ _ _ _ _ _ _ d_Fl_takePiece_156 (by first | exact Or.inl rfl | exact Or.inr rfl | assumption) hM ?_
                have hn9 : n2 = 0 := by rcases Nat.eq_zero_or_pos n2 with z9 | z9; (exact z9); (have := TI_full hTI z9; have := hTI.1.2.2.1; have := cn_le (nzP P2) 225; omega)
                subst hn9
                obtain ⟨t1, t2, t3, t4, t5⟩ := TI_end hTI
                refine ⟨L2, P2, S2, r1, 0, sz2, en2, rfl, ⟨t2, t1, hr1, fun q9 hq9 => sub_z (by omega) t2 (fun k9 hk9 hb9 => by rw [t3 k9 hk9] at hb9; exact ((Bool.and_eq_true _ _).mp hb9).1) (hz1 q9 hq9)⟩, Or.inr ⟨rfl, f9, hf1, hf2, hf3, t3, t4, t5⟩⟩
              · skip
                refine lv_aload_n hx hb d_Fl_takePiece_109 rfl (lv_at hl 0 rfl) ?_
                refine rd_get hC in_Fl hK hM.1 5 (cw_he (by omega) (cE_5)) rfl 4 (by decide) wf_Fl_25 rfl (v := .int (nI n2)) (congrArg (fun z : Int32 => some (Value.int z)) ((pk_un (by omega)).trans ((pk_un (by omega)).trans (pk_us)))) d_Fl_takePiece_110 ?_
                refine nz_le hx hb n2 (by have := hTI.1.2.2.1; have := cn_le (nzP P2) 225; omega) d_Fl_takePiece_113 (tgt := 155) (by decide) (fun h5 => ?_) (fun h5 => ?_)
                · skip
                  refine lv_iconst (v := 1) hx hb d_Fl_takePiece_155 (by decide) ?_
                  refine hret _ _ _ _ _ _ _ d_Fl_takePiece_156 (by first | exact Or.inl rfl | exact Or.inr rfl | assumption) hM ?_
                  have hn9 : n2 = 0 := by rcases Nat.eq_zero_or_pos n2 with z9 | z9; (exact z9); (have := TI_full hTI z9; have := hTI.1.2.2.1; have := cn_le (nzP P2) 225; omega)
                  subst hn9
                  obtain ⟨t1, t2, t3, t4, t5⟩ := TI_end hTI
                  refine ⟨L2, P2, S2, r1, 0, sz2, en2, rfl, ⟨t2, t1, hr1, fun q9 hq9 => sub_z (by omega) t2 (fun k9 hk9 hb9 => by rw [t3 k9 hk9] at hb9; exact ((Bool.and_eq_true _ _).mp hb9).1) (hz1 q9 hq9)⟩, Or.inr ⟨rfl, f9, hf1, hf2, hf3, t3, t4, t5⟩⟩
                · skip
                  refine lv_aload_n hx hb d_Fl_takePiece_116 rfl (lv_at hl 0 rfl) ?_
                  refine rd_get hC in_Fl hK hM.1 5 (cw_he (by omega) (cE_5)) rfl 4 (by decide) wf_Fl_25 rfl (v := .int (nI n2)) (congrArg (fun z : Int32 => some (Value.int z)) ((pk_un (by omega)).trans ((pk_un (by omega)).trans (pk_us)))) d_Fl_takePiece_117 ?_
                  refine lv_sipush (v := 225) hx hb d_Fl_takePiece_120 (by decide) ?_
                  refine nc_gt hx hb n2 225 (by have := hTI.1.2.2.1; have := cn_le (nzP P2) 225; omega) (by have := hTI.1.2.2.1; have := cn_le (nzP P2) 225; omega) d_Fl_takePiece_123 (tgt := 155) (by decide) (fun h6 => ?_) (fun h6 => ?_)
                  · skip
                    refine lv_iconst (v := 1) hx hb d_Fl_takePiece_155 (by decide) ?_
                    refine hret _ _ _ _ _ _ _ d_Fl_takePiece_156 (by first | exact Or.inl rfl | exact Or.inr rfl | assumption) hM ?_
                    have hn9 : n2 = 0 := by rcases Nat.eq_zero_or_pos n2 with z9 | z9; (exact z9); (have := TI_full hTI z9; have := hTI.1.2.2.1; have := cn_le (nzP P2) 225; omega)
                    subst hn9
                    obtain ⟨t1, t2, t3, t4, t5⟩ := TI_end hTI
                    refine ⟨L2, P2, S2, r1, 0, sz2, en2, rfl, ⟨t2, t1, hr1, fun q9 hq9 => sub_z (by omega) t2 (fun k9 hk9 hb9 => by rw [t3 k9 hk9] at hb9; exact ((Bool.and_eq_true _ _).mp hb9).1) (hz1 q9 hq9)⟩, Or.inr ⟨rfl, f9, hf1, hf2, hf3, t3, t4, t5⟩⟩
                  · skip
                    obtain ⟨m9, rfl⟩ : ∃ m9, n2 = m9 + 1 := ⟨n2 - 1, by omega⟩
                    obtain ⟨q9, hq9, hs9, hz9⟩ := hTI.1.2.2.2.1 m9 (by omega)
                    refine lv_aload_n hx hb d_Fl_takePiece_126 rfl (lv_at hl 0 rfl) ?_
                    refine lv_dup hx hb d_Fl_takePiece_127 rfl ?_
                    refine rd_get hC in_Fl hK hM.1 5 (cw_he (by omega) (cE_5)) rfl 4 (by decide) wf_Fl_25 rfl (v := .int (nI (m9 + 1))) (congrArg (fun z : Int32 => some (Value.int z)) ((pk_un (by omega)).trans ((pk_un (by omega)).trans (pk_us)))) d_Fl_takePiece_128 ?_
                    refine lv_iconst (v := 1) hx hb d_Fl_takePiece_131 (by decide) ?_
                    refine lv_isub hx hb d_Fl_takePiece_132 ?_
                    refine topi_eq (iI_sub (↑(m9 + 1) : Int) 1) ?_
                    refine topi_eq (m1_eq m9) ?_
                    refine co_put hC in_Fl t_Fl t_Fl_ok n_Fl hK hM 5 (by omega) (cE_5) rfl 4 (by decide) wf_Fl_25 rfl rfl (ty := .int) (by decide +kernel) (x := nI m9) rfl rfl (Nat.le_of_ble_eq_true rfl) (by decide) (rfl) d_Fl_takePiece_133 (fun H locs hM => ?_)
                    replace hM : CO D cT (CA X) X (upd (upd (upd (upd (upd I 51 (nI r1)) 54 (nI (m9 + 1))) 55 (nI sz2)) 56 en2) 54 (nI m9)) (va_up (va_up (va_up a 6 L2) 7 P2) 8 S2) s.heap H locs := hM
                    rw [upd_swap (i := 56) (j := 54) (by omega), upd_swap (i := 55) (j := 54) (by omega), upd_upd] at hM
                    refine lv_aload_n hx hb d_Fl_takePiece_136 rfl (lv_at hl 0 rfl) ?_
                    refine lv_aload_n hx hb d_Fl_takePiece_137 rfl (lv_at hl 0 rfl) ?_
                    refine rd_get hC in_Fl hK hM.1 5 (cw_he (by omega) (cE_5)) rfl 3 (by decide) wf_Fl_22 rfl (v := .ref (X.1 8)) (rfl) d_Fl_takePiece_138 ?_
                    refine lv_aload_n hx hb d_Fl_takePiece_141 rfl (lv_at hl 0 rfl) ?_
                    refine rd_get hC in_Fl hK hM.1 5 (cw_he (by omega) (cE_5)) rfl 4 (by decide) wf_Fl_25 rfl (v := .int (nI m9)) (congrArg (fun z : Int32 => some (Value.int z)) ((pk_un (by omega)).trans ((pk_un (by omega)).trans (pk_us)))) d_Fl_takePiece_142 ?_
                    refine rd_iald hC hK hM.1 8 (cw_he (by omega) (cE_8)) m9 (i := nI m9) (rfl) (by omega) (by decide) (v := nI q9) ((congrFun (va_up_self _ _ _) _).trans (hs9)) d_Fl_takePiece_145 ?_
                    refine co_callv (np := 1) hC hK hM (k := 5) (by omega) (cE_5) rfl (c_Fl_spread l D cT X I a q9 L2 P2 S2 r1 m9 sz2 en2 hq9 hTI.1.2.2.1 hz9 (R15_LO hTI.1.1) (R15_LO hTI.1.2.1) (by rcases hTI.2.2.2.2.2.2.2.2 with z9 | z9; (exact Or.inr z9.1); (exact Or.inl z9.1))) rfl ⟨wl_Fl_69, wi_Fl_spread, ws_Fl_spread, wc_Fl_spread, wn_Fl⟩ ⟨by decide, by decide, by decide +kernel⟩ ⟨Nat.le_of_ble_eq_true rfl, Nat.le_of_ble_eq_true rfl⟩ hl.1 rfl (rest := []) rfl (Nat.le_of_ble_eq_true rfl) ⟨Nat.zero_le _, Nat.zero_le _⟩ d_Fl_takePiece_146 (fun I7 a7 H locs hp7 hM => ?_)
                    obtain ⟨L7, P7, S7, n7, en7, e7, hen7, hr7⟩ := hp7
                    cases e7
                    refine lv_iinc (v := nI (tn + 1)) (lv' := [(1, .int (nI (tn + 1))), (0, .ref (X.1 5))]) hx hb d_Fl_takePiece_149 hl (k := 1) rfl (nI_add tn 1) (by decide) rfl (fun ls hl => ?_)
                    refine lv_goto (tgt := 102) hx hb d_Fl_takePiece_152 (by decide) ?_
                    exact ih102 (tn + 1) L7 P7 S7 n7 _ en7 _ _ _ (by omega) (by omega) (TI_step hTI hq9 hs9 hz9 hr7 hen7) (hM) (lv_sub hl [1, 0] rfl)
          exact hL102 _ 0 L3 P3 S3 n3 0 0 _ _ _ (Nat.lt_succ_self _) (Nat.zero_le _) (hTI0) (hM) (lv_sub hl [1, 0] rfl)
        · skip
          refine lv_iconst (v := 0) hx hb d_Fl_takePiece_45 (by decide) ?_
          refine hret _ _ _ _ _ _ _ d_Fl_takePiece_46 (by first | exact Or.inl rfl | exact Or.inr rfl | assumption) hM ?_
          obtain rfl : r1 = 225 := by omega
          refine ⟨L, PD, SK, 225, n, sz, en, rfl, ⟨hFK.1, hFK.2.1, Nat.le_refl _, hz1⟩, Or.inl ⟨rfl, fun k9 hk9 => z_bl (hz1 _ (by omega)), rfl⟩⟩
      · skip
        refine lv_aload_n hx hb d_Fl_takePiece_10 rfl (lv_at hl 0 rfl) ?_
        refine rd_get hC in_Fl hK hM.1 5 (cw_he (by omega) (cE_5)) rfl 0 (by decide) wf_Fl_9 rfl (v := .ref (X.1 6)) (rfl) d_Fl_takePiece_11 ?_
        refine lv_aload_n hx hb d_Fl_takePiece_14 rfl (lv_at hl 0 rfl) ?_
        refine rd_get hC in_Fl hK hM.1 5 (cw_he (by omega) (cE_5)) rfl 1 (by decide) wf_Fl_15 rfl (v := .int (nI r1)) (congrArg (fun z : Int32 => some (Value.int z)) ((pk_un (by omega)).trans ((pk_un (by omega)).trans ((pk_un (by omega)).trans (pk_us))))) d_Fl_takePiece_15 ?_
        refine rd_iald hC hK hM.1 6 (cw_he (by omega) (cE_6)) r1 (i := nI r1) (rfl) (by omega) (by decide) (v := L r1) (congrFun ((va_up_ne _ _ (by omega)).trans ((va_up_ne _ _ (by omega)).trans (va_up_self _ _ _))) _) d_Fl_takePiece_18 ?_
        refine lv_if_ne (tgt := 35) hx hb d_Fl_takePiece_19 (by decide) (fun h8 => ?_) (fun h8 => ?_)
        · skip
          refine lv_aload_n hx hb d_Fl_takePiece_35 rfl (lv_at hl 0 rfl) ?_
          refine rd_get hC in_Fl hK hM.1 5 (cw_he (by omega) (cE_5)) rfl 1 (by decide) wf_Fl_15 rfl (v := .int (nI r1)) (congrArg (fun z : Int32 => some (Value.int z)) ((pk_un (by omega)).trans ((pk_un (by omega)).trans ((pk_un (by omega)).trans (pk_us))))) d_Fl_takePiece_36 ?_
          refine lv_sipush (v := 225) hx hb d_Fl_takePiece_39 (by decide) ?_
          refine nc_lt hx hb r1 225 (by omega) (by omega) d_Fl_takePiece_42 (tgt := 47) (by decide) (fun h9 => ?_) (fun h9 => ?_)
          · skip
            obtain ⟨f9, hf1, hf2, hf3, hini⟩ := TI_init (SK := SK) hFK.1 hFK.2.1 (show r1 < 225 by omega) hz1 (by first | assumption | (exfalso; omega))
            refine lv_aload_n hx hb d_Fl_takePiece_47 rfl (lv_at hl 0 rfl) ?_
            refine lv_iconst (v := 0) hx hb d_Fl_takePiece_48 (by decide) ?_
            refine co_put hC in_Fl t_Fl t_Fl_ok n_Fl hK hM 5 (by omega) (cE_5) rfl 4 (by decide) wf_Fl_25 rfl rfl (ty := .int) (by decide +kernel) (x := 0) rfl rfl (Nat.le_of_ble_eq_true rfl) (by decide) (rfl) d_Fl_takePiece_49 (fun H locs hM => ?_)
            replace hM : CO D cT (CA X) X (upd (upd (upd (upd (upd I 51 (nI r1)) 54 (nI n)) 55 (nI sz)) 56 en) 54 0) (va_up (va_up (va_up a 6 L) 7 PD) 8 SK) s.heap H locs := hM
            rw [upd_swap (i := 56) (j := 54) (by omega), upd_swap (i := 55) (j := 54) (by omega), upd_upd] at hM
            refine lv_aload_n hx hb d_Fl_takePiece_52 rfl (lv_at hl 0 rfl) ?_
            refine lv_iconst (v := 0) hx hb d_Fl_takePiece_53 (by decide) ?_
            refine co_put hC in_Fl t_Fl t_Fl_ok n_Fl hK hM 5 (by omega) (cE_5) rfl 5 (by decide) wf_Fl_28 rfl rfl (ty := .int) (by decide +kernel) (x := 0) rfl rfl (Nat.le_of_ble_eq_true rfl) (by decide) (rfl) d_Fl_takePiece_54 (fun H locs hM => ?_)
            replace hM : CO D cT (CA X) X (upd (upd (upd (upd (upd I 51 (nI r1)) 54 0) 55 (nI sz)) 56 en) 55 0) (va_up (va_up (va_up a 6 L) 7 PD) 8 SK) s.heap H locs := hM
            rw [upd_swap (i := 56) (j := 55) (by omega), upd_upd] at hM
            refine lv_aload_n hx hb d_Fl_takePiece_57 rfl (lv_at hl 0 rfl) ?_
            refine lv_iconst (v := 0) hx hb d_Fl_takePiece_58 (by decide) ?_
            refine co_put hC in_Fl t_Fl t_Fl_ok n_Fl hK hM 5 (by omega) (cE_5) rfl 6 (by decide) wf_Fl_31 rfl rfl (ty := .boolean) (by decide +kernel) (x := 0) (vz_in (by first | exact Or.inl rfl | exact Or.inr rfl | exact bI_01 | assumption)).1 (vz_in (by first | exact Or.inl rfl | exact Or.inr rfl | exact bI_01 | assumption)).2 (Nat.le_of_ble_eq_true rfl) (by decide) (rfl) d_Fl_takePiece_59 (fun H locs hM => ?_)
            replace hM : CO D cT (CA X) X (upd (upd (upd (upd (upd I 51 (nI r1)) 54 0) 55 0) 56 en) 56 0) (va_up (va_up (va_up a 6 L) 7 PD) 8 SK) s.heap H locs := hM
            rw [upd_upd] at hM
            refine lv_aload_n hx hb d_Fl_takePiece_62 rfl (lv_at hl 0 rfl) ?_
            refine lv_aload_n hx hb d_Fl_takePiece_63 rfl (lv_at hl 0 rfl) ?_
            refine rd_get hC in_Fl hK hM.1 5 (cw_he (by omega) (cE_5)) rfl 1 (by decide) wf_Fl_15 rfl (v := .int (nI r1)) (congrArg (fun z : Int32 => some (Value.int z)) ((pk_un (by omega)).trans ((pk_un (by omega)).trans ((pk_un (by omega)).trans (pk_us))))) d_Fl_takePiece_64 ?_
            refine st_calli (np := 1) hC (c_Fl_yOf l r1 (by omega)) ⟨wl_Fl_35, wt_Fl_yOf, wc_Fl_yOf, wn_Fl⟩ ⟨by decide, by decide, by decide +kernel⟩ ⟨Nat.le_of_ble_eq_true rfl, Nat.le_of_ble_eq_true rfl⟩ hl.1 rfl (rest := [.ref (X.1 5)]) rfl (Nat.le_of_ble_eq_true rfl) ⟨Nat.zero_le _, Nat.zero_le _⟩ d_Fl_takePiece_67 (fun rr hrr => ?_)
            subst hrr
            refine lv_aload_n hx hb d_Fl_takePiece_70 rfl (lv_at hl 0 rfl) ?_
            refine rd_get hC in_Fl hK hM.1 5 (cw_he (by omega) (cE_5)) rfl 1 (by decide) wf_Fl_15 rfl (v := .int (nI r1)) (congrArg (fun z : Int32 => some (Value.int z)) ((pk_un (by omega)).trans ((pk_un (by omega)).trans ((pk_un (by omega)).trans (pk_us))))) d_Fl_takePiece_71 ?_
            refine st_calli (np := 1) hC (c_Fl_zOf l r1 (by omega)) ⟨wl_Fl_39, wt_Fl_zOf, wc_Fl_zOf, wn_Fl⟩ ⟨by decide, by decide, by decide +kernel⟩ ⟨Nat.le_of_ble_eq_true rfl, Nat.le_of_ble_eq_true rfl⟩ hl.1 rfl (rest := [.int (iI ((↑(r1 % 15) : Int) + (-7))), .ref (X.1 5)]) rfl (Nat.le_of_ble_eq_true rfl) ⟨Nat.zero_le _, Nat.zero_le _⟩ d_Fl_takePiece_74 (fun rr hrr => ?_)
            subst hrr
            refine lv_aload_n hx hb d_Fl_takePiece_77 rfl (lv_at hl 0 rfl) ?_
            refine rd_get hC in_Fl hK hM.1 5 (cw_he (by omega) (cE_5)) rfl 0 (by decide) wf_Fl_9 rfl (v := .ref (X.1 6)) (rfl) d_Fl_takePiece_78 ?_
            refine lv_aload_n hx hb d_Fl_takePiece_81 rfl (lv_at hl 0 rfl) ?_
            refine rd_get hC in_Fl hK hM.1 5 (cw_he (by omega) (cE_5)) rfl 1 (by decide) wf_Fl_15 rfl (v := .int (nI r1)) (congrArg (fun z : Int32 => some (Value.int z)) ((pk_un (by omega)).trans ((pk_un (by omega)).trans ((pk_un (by omega)).trans (pk_us))))) d_Fl_takePiece_82 ?_
            refine rd_iald hC hK hM.1 6 (cw_he (by omega) (cE_6)) r1 (i := nI r1) (rfl) (by omega) (by decide) (v := L r1) (congrFun ((va_up_ne _ _ (by omega)).trans ((va_up_ne _ _ (by omega)).trans (va_up_self _ _ _))) _) d_Fl_takePiece_85 ?_
            refine lv_aload_n hx hb d_Fl_takePiece_86 rfl (lv_at hl 0 rfl) ?_
            refine rd_get hC in_Fl hK hM.1 5 (cw_he (by omega) (cE_5)) rfl 0 (by decide) wf_Fl_9 rfl (v := .ref (X.1 6)) (rfl) d_Fl_takePiece_87 ?_
            refine lv_aload_n hx hb d_Fl_takePiece_90 rfl (lv_at hl 0 rfl) ?_
            refine rd_get hC in_Fl hK hM.1 5 (cw_he (by omega) (cE_5)) rfl 1 (by decide) wf_Fl_15 rfl (v := .int (nI r1)) (congrArg (fun z : Int32 => some (Value.int z)) ((pk_un (by omega)).trans ((pk_un (by omega)).trans ((pk_un (by omega)).trans (pk_us))))) d_Fl_takePiece_91 ?_
            refine rd_iald hC hK hM.1 6 (cw_he (by omega) (cE_6)) r1 (i := nI r1) (rfl) (by omega) (by decide) (v := L r1) (congrFun ((va_up_ne _ _ (by omega)).trans ((va_up_ne _ _ (by omega)).trans (va_up_self _ _ _))) _) d_Fl_takePiece_94 ?_
            refine lv_ineg hx hb d_Fl_takePiece_95 ?_
            refine lv_iand hx hb d_Fl_takePiece_96 ?_
            refine co_callv (np := 3) hC hK hM (k := 5) (by omega) (cE_5) rfl (c_Fl_take l D cT X I a ((↑(r1 % 15) : Int) + (-7)) ((↑(r1 / 15) : Int) + (-7)) ((L r1) &&& (-(L r1))) L PD SK r1 0 0 0 (fun _ _ _ => by omega) (by omega) (by omega) (by omega) (by omega) (by omega)) rfl ⟨wl_Fl_65, wi_Fl_take, ws_Fl_take, wc_Fl_take, wn_Fl⟩ ⟨by decide, by decide, by decide +kernel⟩ ⟨Nat.le_of_ble_eq_true rfl, Nat.le_of_ble_eq_true rfl⟩ hl.1 rfl (rest := []) rfl (Nat.le_of_ble_eq_true rfl) ⟨Nat.zero_le _, Nat.zero_le _⟩ d_Fl_takePiece_97 (fun I10 a10 H locs hp10 hM => ?_)
            obtain ⟨L10, P10, S10, n10, e10, hr10⟩ := hp10
            cases e10
            have hTI0 := hini _ _ _ _ hr10
            refine lv_iconst (v := 0) hx hb d_Fl_takePiece_100 (by decide) ?_
            refine lv_istore_n (lv' := [(1, .int 0), (0, .ref (X.1 5))]) hx hb d_Fl_takePiece_101 rfl hl (by decide) rfl (fun ls hl => ?_)
            have hL102 : ∀ (nn : Nat) (tn : Nat) (L2 : Nat → Int32) (P2 : Nat → Int32) (S2 : Nat → Int32) (n2 : Nat) (sz2 : Nat) (en2 : Int32) (H : Heap) (locs : List Loc) (ls : Array Slot), 3375 - tn < nn → (tn ≤ 3375) → (TI (bl L) f9 L2 P2 S2 n2 sz2 en2 tn) → CO D cT (CA X) X (upd (upd (upd (upd I 51 (nI r1)) 54 (nI n2)) 55 (nI sz2)) 56 en2) (va_up (va_up (va_up a 6 L2) 7 P2) 8 S2) s.heap H locs → lv_has ls 2 [(0, .ref (X.1 5)), (1, .int (nI tn))] → W p l e (rmOf 3 70) s m args below meth c H locs 0 0 Q (F0 m 102 ls []) := by
              intro nn
              induction nn with
              | zero =>
                intro tn L2 P2 S2 n2 sz2 en2 H locs ls hmeas102 htn hTI hM hl
                exact absurd hmeas102 (Nat.not_lt_zero _)
              | succ nn ih102 =>
                intro tn L2 P2 S2 n2 sz2 en2 H locs ls hmeas102 htn hTI hM hl
                refine lv_iload_n hx hb d_Fl_takePiece_102 rfl (lv_at hl 1 rfl) ?_
                refine lv_sipush (v := 3375) hx hb d_Fl_takePiece_103 (by decide) ?_
                refine nc_ge hx hb tn 3375 (by omega) (by omega) d_Fl_takePiece_106 (tgt := 155) (by decide) (fun h11 => ?_) (fun h11 => ?_)
                · skip
                  refine lv_iconst (v := 1) hx hb d_Fl_takePiece_155 (by decide) ?_
                  refine hret _ _ _ _ _ _ _ d_Fl_takePiece_156 (by first | exact Or.inl rfl | exact Or.inr rfl | assumption) hM ?_
                  have hn9 : n2 = 0 := by rcases Nat.eq_zero_or_pos n2 with z9 | z9; (exact z9); (have := TI_full hTI z9; have := hTI.1.2.2.1; have := cn_le (nzP P2) 225; omega)
                  subst hn9
                  obtain ⟨t1, t2, t3, t4, t5⟩ := TI_end hTI
                  refine ⟨L2, P2, S2, r1, 0, sz2, en2, rfl, ⟨t2, t1, hr1, fun q9 hq9 => sub_z (by omega) t2 (fun k9 hk9 hb9 => by rw [t3 k9 hk9] at hb9; exact ((Bool.and_eq_true _ _).mp hb9).1) (hz1 q9 hq9)⟩, Or.inr ⟨rfl, f9, hf1, hf2, hf3, t3, t4, t5⟩⟩
                · skip
                  refine lv_aload_n hx hb d_Fl_takePiece_109 rfl (lv_at hl 0 rfl) ?_
                  refine rd_get hC in_Fl hK hM.1 5 (cw_he (by omega) (cE_5)) rfl 4 (by decide) wf_Fl_25 rfl (v := .int (nI n2)) (congrArg (fun z : Int32 => some (Value.int z)) ((pk_un (by omega)).trans ((pk_un (by omega)).trans (pk_us)))) d_Fl_takePiece_110 ?_
                  refine nz_le hx hb n2 (by have := hTI.1.2.2.1; have := cn_le (nzP P2) 225; omega) d_Fl_takePiece_113 (tgt := 155) (by decide) (fun h12 => ?_) (fun h12 => ?_)
                  · skip
                    refine lv_iconst (v := 1) hx hb d_Fl_takePiece_155 (by decide) ?_
                    refine hret _ _ _ _ _ _ _ d_Fl_takePiece_156 (by first | exact Or.inl rfl | exact Or.inr rfl | assumption) hM ?_
                    have hn9 : n2 = 0 := by rcases Nat.eq_zero_or_pos n2 with z9 | z9; (exact z9); (have := TI_full hTI z9; have := hTI.1.2.2.1; have := cn_le (nzP P2) 225; omega)
                    subst hn9
                    obtain ⟨t1, t2, t3, t4, t5⟩ := TI_end hTI
                    refine ⟨L2, P2, S2, r1, 0, sz2, en2, rfl, ⟨t2, t1, hr1, fun q9 hq9 => sub_z (by omega) t2 (fun k9 hk9 hb9 => by rw [t3 k9 hk9] at hb9; exact ((Bool.and_eq_true _ _).mp hb9).1) (hz1 q9 hq9)⟩, Or.inr ⟨rfl, f9, hf1, hf2, hf3, t3, t4, t5⟩⟩
                  · skip
                    refine lv_aload_n hx hb d_Fl_takePiece_116 rfl (lv_at hl 0 rfl) ?_
                    refine rd_get hC in_Fl hK hM.1 5 (cw_he (by omega) (cE_5)) rfl 4 (by decide) wf_Fl_25 rfl (v := .int (nI n2)) (congrArg (fun z : Int32 => some (Value.int z)) ((pk_un (by omega)).trans ((pk_un (by omega)).trans (pk_us)))) d_Fl_takePiece_117 ?_
                    refine lv_sipush (v := 225) hx hb d_Fl_takePiece_120 (by decide) ?_
                    refine nc_gt hx hb n2 225 (by have := hTI.1.2.2.1; have := cn_le (nzP P2) 225; omega) (by have := hTI.1.2.2.1; have := cn_le (nzP P2) 225; omega) d_Fl_takePiece_123 (tgt := 155) (by decide) (fun h13 => ?_) (fun h13 => ?_)
                    · skip
                      refine lv_iconst (v := 1) hx hb d_Fl_takePiece_155 (by decide) ?_
                      refine hret _ _ _ _ _ _ _ d_Fl_takePiece_156 (by first | exact Or.inl rfl | exact Or.inr rfl | assumption) hM ?_
                      have hn9 : n2 = 0 := by rcases Nat.eq_zero_or_pos n2 with z9 | z9; (exact z9); (have := TI_full hTI z9; have := hTI.1.2.2.1; have := cn_le (nzP P2) 225; omega)
                      subst hn9
                      obtain ⟨t1, t2, t3, t4, t5⟩ := TI_end hTI
                      refine ⟨L2, P2, S2, r1, 0, sz2, en2, rfl, ⟨t2, t1, hr1, fun q9 hq9 => sub_z (by omega) t2 (fun k9 hk9 hb9 => by rw [t3 k9 hk9] at hb9; exact ((Bool.and_eq_true _ _).mp hb9).1) (hz1 q9 hq9)⟩, Or.inr ⟨rfl, f9, hf1, hf2, hf3, t3, t4, t5⟩⟩
                    · skip
                      obtain ⟨m9, rfl⟩ : ∃ m9, n2 = m9 + 1 := ⟨n2 - 1, by omega⟩
                      obtain ⟨q9, hq9, hs9, hz9⟩ := hTI.1.2.2.2.1 m9 (by omega)
                      refine lv_aload_n hx hb d_Fl_takePiece_126 rfl (lv_at hl 0 rfl) ?_
                      refine lv_dup hx hb d_Fl_takePiece_127 rfl ?_
                      refine rd_get hC in_Fl hK hM.1 5 (cw_he (by omega) (cE_5)) rfl 4 (by decide) wf_Fl_25 rfl (v := .int (nI (m9 + 1))) (congrArg (fun z : Int32 => some (Value.int z)) ((pk_un (by omega)).trans ((pk_un (by omega)).trans (pk_us)))) d_Fl_takePiece_128 ?_
                      refine lv_iconst (v := 1) hx hb d_Fl_takePiece_131 (by decide) ?_
                      refine lv_isub hx hb d_Fl_takePiece_132 ?_
                      refine topi_eq (iI_sub (↑(m9 + 1) : Int) 1) ?_
                      refine topi_eq (m1_eq m9) ?_
                      refine co_put hC in_Fl t_Fl t_Fl_ok n_Fl hK hM 5 (by omega) (cE_5) rfl 4 (by decide) wf_Fl_25 rfl rfl (ty := .int) (by decide +kernel) (x := nI m9) rfl rfl (Nat.le_of_ble_eq_true rfl) (by decide) (rfl) d_Fl_takePiece_133 (fun H locs hM => ?_)
                      replace hM : CO D cT (CA X) X (upd (upd (upd (upd (upd I 51 (nI r1)) 54 (nI (m9 + 1))) 55 (nI sz2)) 56 en2) 54 (nI m9)) (va_up (va_up (va_up a 6 L2) 7 P2) 8 S2) s.heap H locs := hM
                      rw [upd_swap (i := 56) (j := 54) (by omega), upd_swap (i := 55) (j := 54) (by omega), upd_upd] at hM
                      refine lv_aload_n hx hb d_Fl_takePiece_136 rfl (lv_at hl 0 rfl) ?_
                      refine lv_aload_n hx hb d_Fl_takePiece_137 rfl (lv_at hl 0 rfl) ?_
                      refine rd_get hC in_Fl hK hM.1 5 (cw_he (by omega) (cE_5)) rfl 3 (by decide) wf_Fl_22 rfl (v := .ref (X.1 8)) (rfl) d_Fl_takePiece_138 ?_
                      refine lv_aload_n hx hb d_Fl_takePiece_141 rfl (lv_at hl 0 rfl) ?_
                      refine rd_get hC in_Fl hK hM.1 5 (cw_he (by omega) (cE_5)) rfl 4 (by decide) wf_Fl_25 rfl (v := .int (nI m9)) (congrArg (fun z : Int32 => some (Value.int z)) ((pk_un (by omega)).trans ((pk_un (by omega)).trans (pk_us)))) d_Fl_takePiece_142 ?_
                      refine rd_iald hC hK hM.1 8 (cw_he (by omega) (cE_8)) m9 (i := nI m9) (rfl) (by omega) (by decide) (v := nI q9) ((congrFun (va_up_self _ _ _) _).trans (hs9)) d_Fl_takePiece_145 ?_
                      refine co_callv (np := 1) hC hK hM (k := 5) (by omega) (cE_5) rfl (c_Fl_spread l D cT X I a q9 L2 P2 S2 r1 m9 sz2 en2 hq9 hTI.1.2.2.1 hz9 (R15_LO hTI.1.1) (R15_LO hTI.1.2.1) (by rcases hTI.2.2.2.2.2.2.2.2 with z9 | z9; (exact Or.inr z9.1); (exact Or.inl z9.1))) rfl ⟨wl_Fl_69, wi_Fl_spread, ws_Fl_spread, wc_Fl_spread, wn_Fl⟩ ⟨by decide, by decide, by decide +kernel⟩ ⟨Nat.le_of_ble_eq_true rfl, Nat.le_of_ble_eq_true rfl⟩ hl.1 rfl (rest := []) rfl (Nat.le_of_ble_eq_true rfl) ⟨Nat.zero_le _, Nat.zero_le _⟩ d_Fl_takePiece_146 (fun I14 a14 H locs hp14 hM => ?_)
                      obtain ⟨L14, P14, S14, n14, en14, e14, hen14, hr14⟩ := hp14
                      cases e14
                      refine lv_iinc (v := nI (tn + 1)) (lv' := [(1, .int (nI (tn + 1))), (0, .ref (X.1 5))]) hx hb d_Fl_takePiece_149 hl (k := 1) rfl (nI_add tn 1) (by decide) rfl (fun ls hl => ?_)
                      refine lv_goto (tgt := 102) hx hb d_Fl_takePiece_152 (by decide) ?_
                      exact ih102 (tn + 1) L14 P14 S14 n14 _ en14 _ _ _ (by omega) (by omega) (TI_step hTI hq9 hs9 hz9 hr14 hen14) (hM) (lv_sub hl [1, 0] rfl)
            exact hL102 _ 0 L10 P10 S10 n10 0 0 _ _ _ (Nat.lt_succ_self _) (Nat.zero_le _) (hTI0) (hM) (lv_sub hl [1, 0] rfl)
          · skip
            refine lv_iconst (v := 0) hx hb d_Fl_takePiece_45 (by decide) ?_
            refine hret _ _ _ _ _ _ _ d_Fl_takePiece_46 (by first | exact Or.inl rfl | exact Or.inr rfl | assumption) hM ?_
            obtain rfl : r1 = 225 := by omega
            refine ⟨L, PD, SK, 225, n, sz, en, rfl, ⟨hFK.1, hFK.2.1, Nat.le_refl _, hz1⟩, Or.inl ⟨rfl, fun k9 hk9 => z_bl (hz1 _ (by omega)), rfl⟩⟩
        · skip
          refine lv_aload_n hx hb d_Fl_takePiece_22 rfl (lv_at hl 0 rfl) ?_
          refine lv_dup hx hb d_Fl_takePiece_23 rfl ?_
          refine rd_get hC in_Fl hK hM.1 5 (cw_he (by omega) (cE_5)) rfl 1 (by decide) wf_Fl_15 rfl (v := .int (nI r1)) (congrArg (fun z : Int32 => some (Value.int z)) ((pk_un (by omega)).trans ((pk_un (by omega)).trans ((pk_un (by omega)).trans (pk_us))))) d_Fl_takePiece_24 ?_
          refine lv_iconst (v := 1) hx hb d_Fl_takePiece_27 (by decide) ?_
          refine lv_iadd hx hb d_Fl_takePiece_28 ?_
          refine topi_eq (nI_add r1 1) ?_
          refine co_put hC in_Fl t_Fl t_Fl_ok n_Fl hK hM 5 (by omega) (cE_5) rfl 1 (by decide) wf_Fl_15 rfl rfl (ty := .int) (by decide +kernel) (x := nI (r1 + 1)) rfl rfl (Nat.le_of_ble_eq_true rfl) (by decide) (rfl) d_Fl_takePiece_29 (fun H locs hM => ?_)
          replace hM : CO D cT (CA X) X (upd (upd (upd (upd (upd I 51 (nI r1)) 54 (nI n)) 55 (nI sz)) 56 en) 51 (nI (r1 + 1))) (va_up (va_up (va_up a 6 L) 7 PD) 8 SK) s.heap H locs := hM
          rw [upd_swap (i := 56) (j := 51) (by omega), upd_swap (i := 55) (j := 51) (by omega), upd_swap (i := 54) (j := 51) (by omega), upd_upd] at hM
          refine lv_goto (tgt := 0) hx hb d_Fl_takePiece_32 (by decide) ?_
          exact ih0 (r1 + 1) _ _ _ (by omega) (by omega) (fun q9 hq9 => by by_cases z9 : q9 = r1; (rw [z9]; assumption); (exact hz1 q9 (by omega))) (hM) (lv_sub hl [0] rfl)
  exact hL0 _ lr _ _ _ (Nat.lt_succ_self _) (hFK.2.2.1) (hFK.2.2.2) (hM) (lv_sub hl [0] rfl)
