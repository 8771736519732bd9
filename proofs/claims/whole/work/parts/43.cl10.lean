/-! the class: the flood, its steps. A state: rows left, rows pending, the stack, how many are stacked -/
abbrev FS : Type := (Nat → Int32) × (Nat → Int32) × (Nat → Int32) × Nat
def tkF (s : FS) (y z : Int) (bits : Int32) : FS :=
  if rpl y z < 0 then s else if s.1 (rpl y z).toNat &&& bits = 0 then s else
    (upd s.1 (rpl y z).toNat (s.1 (rpl y z).toNat &&& (bits ^^^ (-1))), upd s.2.1 (rpl y z).toNat (s.2.1 (rpl y z).toNat ||| (s.1 (rpl y z).toNat &&& bits)), (if s.2.1 (rpl y z).toNat = 0 then upd s.2.2.1 s.2.2.2 (iI (rpl y z)) else s.2.2.1), (if s.2.1 (rpl y z).toNat = 0 then s.2.2.2 + 1 else s.2.2.2))
def nzP (P : Nat → Int32) (q : Nat) : Bool := decide (¬ P q = 0)
theorem nz_lt {P : Nat → Int32} {n q : Nat} (h : cn (nzP P) 225 = n) (hq : q < 225) (hz : P q = 0) : n < 225 := by
  have e : ∀ m, q < m → cn (nzP P) m < m := by
    intro m
    induction m with
    | zero => intro h; omega
    | succ m ih =>
      intro hm
      show cn (nzP P) m + (if nzP P m = true then 1 else 0) < m + 1
      by_cases e : q = m
      · subst e
        have : nzP P q = false := decide_eq_false (fun z => z hz)
        rw [this, if_neg (by decide)]
        have := cn_le (nzP P) q
        omega
      · have := ih (by omega)
        split <;> omega
  rw [← h]
  exact e 225 hq
theorem or_nz {x y : Int32} (h : ¬ y = 0) : ¬ (x ||| y) = 0 := by
  intro z
  apply h
  apply b_ext
  intro i hi
  have := congrArg (fun w => bt w i) z
  simp only [b_or, b_0] at this
  rw [b_0]
  cases q : bt y i
  · rfl
  · rw [q, Bool.or_true] at this; cases this
theorem tkF_cn {s s' : FS} {y z : Int} {bits : Int32} (e : s' = tkF s y z bits) (h : cn (nzP s.2.1) 225 = s.2.2.2) : cn (nzP s'.2.1) 225 = s'.2.2.2 := by
  subst e
  have hr := rpl_b y z
  unfold tkF
  by_cases h1 : rpl y z < 0
  · rw [if_pos h1]; exact h
  · rw [if_neg h1]
    by_cases h2 : s.1 (rpl y z).toNat &&& bits = 0
    · rw [if_pos h2]; exact h
    · rw [if_neg h2]
      show cn (nzP (upd s.2.1 (rpl y z).toNat (s.2.1 (rpl y z).toNat ||| (s.1 (rpl y z).toNat &&& bits)))) 225 = (if s.2.1 (rpl y z).toNat = 0 then s.2.2.2 + 1 else s.2.2.2)
      generalize hq : (rpl y z).toNat = q at *
      have hq2 : q < 225 := by omega
      by_cases h3 : s.2.1 q = 0
      · rw [if_pos h3, cn_add1 (p := nzP s.2.1) (x := q) (decide_eq_false (fun w => w h3)) ?_ 225, if_pos hq2, h]
        intro k
        unfold nzP
        by_cases e : k = q
        · subst e
          rw [pk_us, decide_eq_true (or_nz h2), decide_eq_true rfl, Bool.or_true]
        · rw [pk_un e, decide_eq_false e, Bool.or_false]
      · rw [if_neg h3, ← h]
        refine cn_cong (fun k _ => ?_)
        unfold nzP
        by_cases e : k = q
        · subst e
          rw [pk_us, decide_eq_true (or_nz h2), decide_eq_true h3]
        · rw [pk_un e]
def LO (L : Nat → Int32) : Prop := ∀ q, q < 225 → lo16 (L q)
theorem LO_upd {L : Nat → Int32} {q : Nat} {x : Int32} (h : LO L) (hx : lo16 x) : LO (upd L q x) := fun k hk => by
  by_cases e : k = q
  · rw [e, pk_us]; exact hx
  · rw [pk_un e]; exact h k hk
theorem tkF_lo {s s' : FS} {y z : Int} {bits : Int32} (e : s' = tkF s y z bits) (h1 : LO s.1) (h2 : LO s.2.1) : LO s'.1 ∧ LO s'.2.1 := by
  subst e
  have hr := rpl_b y z
  unfold tkF
  split
  · exact ⟨h1, h2⟩
  · split
    · exact ⟨h1, h2⟩
    · exact ⟨LO_upd h1 (lo_and (h1 _ (by omega))), LO_upd h2 (lo_or (h2 _ (by omega)) (lo_and (h1 _ (by omega))))⟩
theorem lo_shl {x y : Int32} (h2 : lo16 y) : lo16 (x &&& y) := fun i hi => by rw [b_and, h2 i hi, Bool.and_false]
theorem lo_grN {row x : Int32} (h1 : lo16 row) (h2 : lo16 x) : ∀ k, lo16 (grN row x k)
  | 0 => h2
  | k + 1 => lo_or (lo_grN h1 h2 k) (lo_shl h1)
def spB (s : FS) (q : Nat) : Int32 := grN (s.1 q) (s.2.1 q) 14
def spY (q : Nat) : Int := (↑(q % 15) : Int) + (-7)
def spZ (q : Nat) : Int := (↑(q / 15) : Int) + (-7)
def sp0 (s : FS) (q : Nat) : FS := (upd s.1 q (s.1 q &&& (spB s q ^^^ (-1))), upd s.2.1 q 0, s.2.2.1, s.2.2.2)
def spF (s : FS) (q : Nat) : FS := tkF (tkF (tkF (tkF (sp0 s q) (spY q - 1) (spZ q) (spB s q)) (spY q + 1) (spZ q) (spB s q)) (spY q) (spZ q - 1) (spB s q)) (spY q) (spZ q + 1) (spB s q)
def spE (en : Int32) (q : Nat) (bits : Int32) : Prop := ¬ en = 0 ∨ (spY q = -7 ∨ spY q = 7) ∨ (spZ q = -7 ∨ spZ q = 7) ∨ ¬ (bits &&& 32770) = 0
theorem sp0_cn {s : FS} {q : Nat} (hq : q < 225) (h : cn (nzP s.2.1) 225 = s.2.2.2 + 1) (hz : ¬ s.2.1 q = 0) : cn (nzP (upd s.2.1 q 0)) 225 = s.2.2.2 := by
  have e := cn_add1 (p := nzP (upd s.2.1 q 0)) (q := nzP s.2.1) (x := q) (decide_eq_false (fun w => w pk_us)) (fun k => by
    unfold nzP
    by_cases e : k = q
    · subst e
      rw [decide_eq_true hz, decide_eq_true rfl, Bool.or_true]
    · rw [pk_un e, decide_eq_false e, Bool.or_false]) 225
  rw [if_pos hq, h] at e
  omega
set_option maxHeartbeats 400000 in
set_option maxRecDepth 100000 in
theorem c_Fl_take (l : Launch) (D : va_G) (cT : Nat → ClassId) (X : CX) (I : Nat → Int32) (a : Nat → Nat → Int32) (y : Int) (zc : Int) (bits : Int32) (L PD SK : Nat → Int32) (lr n sz : Nat) (en : Int32)  (hst : ∀ q, q < 225 → PD q = 0 → n < 225) (hn : n ≤ 225) (hy1 : -100 ≤ y) (hy2 : y ≤ 100) (hz1 : -100 ≤ zc) (hz2 : zc ≤ 100) : CMv l D cT X y_Fl_take b_Fl_take 5 none 1 22 [.ref (X.1 5), .int (iI y), .int (iI zc), .int bits] (upd (upd (upd (upd I 51 (nI lr)) 54 (nI n)) 55 (nI sz)) 56 en) (va_up (va_up (va_up a 6 L) 7 PD) 8 SK) (fun u => ∃ L' P' S' n', u = (upd (upd (upd (upd I 51 (nI lr)) 54 (nI n')) 55 (nI sz)) 56 en, va_up (va_up (va_up a 6 L') 7 P') 8 S') ∧ (L', P', S', n') = tkF (L, PD, SK, n) y zc bits) := by
  refine co_entv (own := R_Fl) (by decide) rfl (Nat.le_of_ble_eq_true rfl) ?_
  intro p e s m args below meth c Q hC hK hM hret ls hl
  have hx := hC.1
  have hb := hC.2.1
  replace hl : lv_has ls 5 [(0, .ref (X.1 5)), (1, .int (iI y)), (2, .int (iI zc)), (3, .int bits)] := hl
  have hr9 := rpl_b y zc
  refine lv_iload_n hx hb d_Fl_take_0 rfl (lv_at hl 1 rfl) ?_
  refine lv_iload_n hx hb d_Fl_take_1 rfl (lv_at hl 2 rfl) ?_
  refine st_calliN (np := 2) hC hK (c_So_rowPlace l y zc (by omega) (by omega) (by omega) (by omega)) ⟨wL_Fl_62, wt_So_rowPlace, wc_So_rowPlace, wn_So⟩ ⟨by decide, by decide, by decide +kernel⟩ ⟨Nat.le_of_ble_eq_true rfl, Nat.le_of_ble_eq_true rfl⟩ hl.1 rfl (rest := []) rfl (Nat.le_of_ble_eq_true rfl) ⟨Nat.zero_le _, Nat.zero_le _⟩ d_Fl_take_2 (fun rr hrr => ?_)
  subst hrr
  refine lv_istore (lv' := [(4, .int (iI (rpl y zc))), (0, .ref (X.1 5)), (1, .int (iI y)), (2, .int (iI zc)), (3, .int bits)]) hx hb d_Fl_take_5 hl (by decide) rfl (fun ls hl => ?_)
  refine lv_iload hx hb d_Fl_take_7 (lv_at hl 0 rfl) ?_
  refine zz_lt hx hb (rpl y zc) (by omega) (by omega) d_Fl_take_9 (tgt := 32) (by decide) (fun h1 => ?_) (fun h1 => ?_)
  · skip
    refine hret _ _ _ _ _ _ d_Fl_take_32 hM ?_
    refine ⟨_, _, _, _, rfl, ?_⟩
    exact (if_pos (by omega)).symm
  · skip
    refine lv_iload hx hb d_Fl_take_12 (lv_at hl 0 rfl) ?_
    refine lv_sipush (v := 225) hx hb d_Fl_take_14 (by decide) ?_
    refine zc_ge hx hb (rpl y zc) 225 (by omega) (by omega) (by omega) (by omega) d_Fl_take_17 (tgt := 32) (by decide) (fun h2 => ?_) (fun h2 => ?_)
    · skip
      refine hret _ _ _ _ _ _ d_Fl_take_32 hM ?_
      refine ⟨_, _, _, _, rfl, ?_⟩
      exact (if_pos (by omega)).symm
    · skip
      refine lv_aload_n hx hb d_Fl_take_20 rfl (lv_at hl 1 rfl) ?_
      refine rd_get hC in_Fl hK hM.1 5 (cw_he (by omega) (cE_5)) rfl 0 (by decide) wf_Fl_9 rfl (v := .ref (X.1 6)) (rfl) d_Fl_take_21 ?_
      refine lv_iload hx hb d_Fl_take_24 (lv_at hl 0 rfl) ?_
      refine rd_iald hC hK hM.1 6 (cw_he (by omega) (cE_6)) ((rpl y zc).toNat) (i := iI (rpl y zc)) (by rw [nI_iI, Int.toNat_of_nonneg (by omega)]) (by omega) (by decide) (v := L ((rpl y zc).toNat)) (congrFun ((va_up_ne _ _ (by omega)).trans ((va_up_ne _ _ (by omega)).trans (va_up_self _ _ _))) _) d_Fl_take_26 ?_
      refine lv_iload_n hx hb d_Fl_take_27 rfl (lv_at hl 4 rfl) ?_
      refine lv_iand hx hb d_Fl_take_28 ?_
      refine lv_if_ne (tgt := 33) hx hb d_Fl_take_29 (by decide) (fun h3 => ?_) (fun h3 => ?_)
      · skip
        refine lv_aload_n hx hb d_Fl_take_33 rfl (lv_at hl 1 rfl) ?_
        refine rd_get hC in_Fl hK hM.1 5 (cw_he (by omega) (cE_5)) rfl 2 (by decide) wf_Fl_19 rfl (v := .ref (X.1 7)) (rfl) d_Fl_take_34 ?_
        refine lv_iload hx hb d_Fl_take_37 (lv_at hl 0 rfl) ?_
        refine rd_iald hC hK hM.1 7 (cw_he (by omega) (cE_7)) ((rpl y zc).toNat) (i := iI (rpl y zc)) (by rw [nI_iI, Int.toNat_of_nonneg (by omega)]) (by omega) (by decide) (v := PD ((rpl y zc).toNat)) (congrFun ((va_up_ne _ _ (by omega)).trans (va_up_self _ _ _)) _) d_Fl_take_39 ?_
        refine lv_if_ne (tgt := 81) hx hb d_Fl_take_40 (by decide) (fun h4 => ?_) (fun h4 => ?_)
        · skip
          refine lv_aload_n hx hb d_Fl_take_81 rfl (lv_at hl 1 rfl) ?_
          refine rd_get hC in_Fl hK hM.1 5 (cw_he (by omega) (cE_5)) rfl 2 (by decide) wf_Fl_19 rfl (v := .ref (X.1 7)) (rfl) d_Fl_take_82 ?_
          refine lv_iload hx hb d_Fl_take_85 (lv_at hl 0 rfl) ?_
          refine lv_dup2_11 hx hb d_Fl_take_87 rfl rfl ?_
          refine rd_iald hC hK hM.1 7 (cw_he (by omega) (cE_7)) ((rpl y zc).toNat) (i := iI (rpl y zc)) (by rw [nI_iI, Int.toNat_of_nonneg (by omega)]) (by omega) (by decide) (v := PD ((rpl y zc).toNat)) (congrFun ((va_up_ne _ _ (by omega)).trans (va_up_self _ _ _)) _) d_Fl_take_88 ?_
          refine lv_aload_n hx hb d_Fl_take_89 rfl (lv_at hl 1 rfl) ?_
          refine rd_get hC in_Fl hK hM.1 5 (cw_he (by omega) (cE_5)) rfl 0 (by decide) wf_Fl_9 rfl (v := .ref (X.1 6)) (rfl) d_Fl_take_90 ?_
          refine lv_iload hx hb d_Fl_take_93 (lv_at hl 0 rfl) ?_
          refine rd_iald hC hK hM.1 6 (cw_he (by omega) (cE_6)) ((rpl y zc).toNat) (i := iI (rpl y zc)) (by rw [nI_iI, Int.toNat_of_nonneg (by omega)]) (by omega) (by decide) (v := L ((rpl y zc).toNat)) (congrFun ((va_up_ne _ _ (by omega)).trans ((va_up_ne _ _ (by omega)).trans (va_up_self _ _ _))) _) d_Fl_take_95 ?_
          refine lv_iload_n hx hb d_Fl_take_96 rfl (lv_at hl 4 rfl) ?_
          refine lv_iand hx hb d_Fl_take_97 ?_
          refine lv_ior hx hb d_Fl_take_98 ?_
          refine co_iast hC hK hM 7 (by omega) (fun _ => rfl) ((rpl y zc).toNat) (i := iI (rpl y zc)) (x := (PD ((rpl y zc).toNat)) ||| ((L ((rpl y zc).toNat)) &&& bits)) (by rw [nI_iI, Int.toNat_of_nonneg (by omega)]) (by omega) (by decide) d_Fl_take_99 (fun H locs hM => ?_)
          replace hM : CO D cT (CA X) X (upd (upd (upd (upd I 51 (nI lr)) 54 (nI n)) 55 (nI sz)) 56 en) (va_up (va_up (va_up (va_up a 6 L) 7 PD) 8 SK) 7 (upd PD ((rpl y zc).toNat) ((PD ((rpl y zc).toNat)) ||| ((L ((rpl y zc).toNat)) &&& bits)))) s.heap H locs := hM
          rw [up_swap (i := 8) (j := 7) (by omega), bx_uu] at hM
          refine lv_aload_n hx hb d_Fl_take_100 rfl (lv_at hl 1 rfl) ?_
          refine rd_get hC in_Fl hK hM.1 5 (cw_he (by omega) (cE_5)) rfl 0 (by decide) wf_Fl_9 rfl (v := .ref (X.1 6)) (rfl) d_Fl_take_101 ?_
          refine lv_iload hx hb d_Fl_take_104 (lv_at hl 0 rfl) ?_
          refine lv_dup2_11 hx hb d_Fl_take_106 rfl rfl ?_
          refine rd_iald hC hK hM.1 6 (cw_he (by omega) (cE_6)) ((rpl y zc).toNat) (i := iI (rpl y zc)) (by rw [nI_iI, Int.toNat_of_nonneg (by omega)]) (by omega) (by decide) (v := L ((rpl y zc).toNat)) (congrFun ((va_up_ne _ _ (by omega)).trans ((va_up_ne _ _ (by omega)).trans (va_up_self _ _ _))) _) d_Fl_take_107 ?_
          refine lv_iload_n hx hb d_Fl_take_108 rfl (lv_at hl 4 rfl) ?_
          refine lv_iconst (v := (-1)) hx hb d_Fl_take_109 (by decide) ?_
          refine lv_ixor hx hb d_Fl_take_110 ?_
          refine lv_iand hx hb d_Fl_take_111 ?_
          refine co_iast hC hK hM 6 (by omega) (fun _ => rfl) ((rpl y zc).toNat) (i := iI (rpl y zc)) (x := (L ((rpl y zc).toNat)) &&& (bits ^^^ (-1))) (by rw [nI_iI, Int.toNat_of_nonneg (by omega)]) (by omega) (by decide) d_Fl_take_112 (fun H locs hM => ?_)
          replace hM : CO D cT (CA X) X (upd (upd (upd (upd I 51 (nI lr)) 54 (nI n)) 55 (nI sz)) 56 en) (va_up (va_up (va_up (va_up a 6 L) 7 (upd PD ((rpl y zc).toNat) ((PD ((rpl y zc).toNat)) ||| ((L ((rpl y zc).toNat)) &&& bits)))) 8 SK) 6 (upd L ((rpl y zc).toNat) ((L ((rpl y zc).toNat)) &&& (bits ^^^ (-1))))) s.heap H locs := hM
          rw [up_swap (i := 8) (j := 6) (by omega), up_swap (i := 7) (j := 6) (by omega), bx_uu] at hM
          refine hret _ _ _ _ _ _ d_Fl_take_113 hM ?_
          refine ⟨_, _, _, _, rfl, ?_⟩
          refine Eq.symm ((if_neg (by omega)).trans ((if_neg h3).trans ?_))
          show (_, _, (if PD (rpl y zc).toNat = 0 then upd SK n (iI (rpl y zc)) else SK), (if PD (rpl y zc).toNat = 0 then n + 1 else n)) = _
          rw [if_neg h4, if_neg h4]
        · skip
          refine lv_aload_n hx hb d_Fl_take_43 rfl (lv_at hl 1 rfl) ?_
          refine rd_get hC in_Fl hK hM.1 5 (cw_he (by omega) (cE_5)) rfl 4 (by decide) wf_Fl_25 rfl (v := .int (nI n)) (congrArg (fun z : Int32 => some (Value.int z)) ((pk_un (by omega)).trans ((pk_un (by omega)).trans (pk_us)))) d_Fl_take_44 ?_
          refine zz_lt hx hb (↑n : Int) (by omega) (by omega) d_Fl_take_47 (tgt := 81) (by decide) (fun h5 => ?_) (fun h5 => ?_)
          · skip
            refine lv_aload_n hx hb d_Fl_take_81 rfl (lv_at hl 1 rfl) ?_
            refine rd_get hC in_Fl hK hM.1 5 (cw_he (by omega) (cE_5)) rfl 2 (by decide) wf_Fl_19 rfl (v := .ref (X.1 7)) (rfl) d_Fl_take_82 ?_
            refine lv_iload hx hb d_Fl_take_85 (lv_at hl 0 rfl) ?_
            refine lv_dup2_11 hx hb d_Fl_take_87 rfl rfl ?_
            refine rd_iald hC hK hM.1 7 (cw_he (by omega) (cE_7)) ((rpl y zc).toNat) (i := iI (rpl y zc)) (by rw [nI_iI, Int.toNat_of_nonneg (by omega)]) (by omega) (by decide) (v := PD ((rpl y zc).toNat)) (congrFun ((va_up_ne _ _ (by omega)).trans (va_up_self _ _ _)) _) d_Fl_take_88 ?_
            refine lv_aload_n hx hb d_Fl_take_89 rfl (lv_at hl 1 rfl) ?_
            refine rd_get hC in_Fl hK hM.1 5 (cw_he (by omega) (cE_5)) rfl 0 (by decide) wf_Fl_9 rfl (v := .ref (X.1 6)) (rfl) d_Fl_take_90 ?_
            refine lv_iload hx hb d_Fl_take_93 (lv_at hl 0 rfl) ?_
            refine rd_iald hC hK hM.1 6 (cw_he (by omega) (cE_6)) ((rpl y zc).toNat) (i := iI (rpl y zc)) (by rw [nI_iI, Int.toNat_of_nonneg (by omega)]) (by omega) (by decide) (v := L ((rpl y zc).toNat)) (congrFun ((va_up_ne _ _ (by omega)).trans ((va_up_ne _ _ (by omega)).trans (va_up_self _ _ _))) _) d_Fl_take_95 ?_
            refine lv_iload_n hx hb d_Fl_take_96 rfl (lv_at hl 4 rfl) ?_
            refine lv_iand hx hb d_Fl_take_97 ?_
            refine lv_ior hx hb d_Fl_take_98 ?_
            refine co_iast hC hK hM 7 (by omega) (fun _ => rfl) ((rpl y zc).toNat) (i := iI (rpl y zc)) (x := (PD ((rpl y zc).toNat)) ||| ((L ((rpl y zc).toNat)) &&& bits)) (by rw [nI_iI, Int.toNat_of_nonneg (by omega)]) (by omega) (by decide) d_Fl_take_99 (fun H locs hM => ?_)
            replace hM : CO D cT (CA X) X (upd (upd (upd (upd I 51 (nI lr)) 54 (nI n)) 55 (nI sz)) 56 en) (va_up (va_up (va_up (va_up a 6 L) 7 PD) 8 SK) 7 (upd PD ((rpl y zc).toNat) ((PD ((rpl y zc).toNat)) ||| ((L ((rpl y zc).toNat)) &&& bits)))) s.heap H locs := hM
            rw [up_swap (i := 8) (j := 7) (by omega), bx_uu] at hM
            refine lv_aload_n hx hb d_Fl_take_100 rfl (lv_at hl 1 rfl) ?_
            refine rd_get hC in_Fl hK hM.1 5 (cw_he (by omega) (cE_5)) rfl 0 (by decide) wf_Fl_9 rfl (v := .ref (X.1 6)) (rfl) d_Fl_take_101 ?_
            refine lv_iload hx hb d_Fl_take_104 (lv_at hl 0 rfl) ?_
            refine lv_dup2_11 hx hb d_Fl_take_106 rfl rfl ?_
            refine rd_iald hC hK hM.1 6 (cw_he (by omega) (cE_6)) ((rpl y zc).toNat) (i := iI (rpl y zc)) (by rw [nI_iI, Int.toNat_of_nonneg (by omega)]) (by omega) (by decide) (v := L ((rpl y zc).toNat)) (congrFun ((va_up_ne _ _ (by omega)).trans ((va_up_ne _ _ (by omega)).trans (va_up_self _ _ _))) _) d_Fl_take_107 ?_
            refine lv_iload_n hx hb d_Fl_take_108 rfl (lv_at hl 4 rfl) ?_
            refine lv_iconst (v := (-1)) hx hb d_Fl_take_109 (by decide) ?_
            refine lv_ixor hx hb d_Fl_take_110 ?_
            refine lv_iand hx hb d_Fl_take_111 ?_
            refine co_iast hC hK hM 6 (by omega) (fun _ => rfl) ((rpl y zc).toNat) (i := iI (rpl y zc)) (x := (L ((rpl y zc).toNat)) &&& (bits ^^^ (-1))) (by rw [nI_iI, Int.toNat_of_nonneg (by omega)]) (by omega) (by decide) d_Fl_take_112 (fun H locs hM => ?_)
            replace hM : CO D cT (CA X) X (upd (upd (upd (upd I 51 (nI lr)) 54 (nI n)) 55 (nI sz)) 56 en) (va_up (va_up (va_up (va_up a 6 L) 7 (upd PD ((rpl y zc).toNat) ((PD ((rpl y zc).toNat)) ||| ((L ((rpl y zc).toNat)) &&& bits)))) 8 SK) 6 (upd L ((rpl y zc).toNat) ((L ((rpl y zc).toNat)) &&& (bits ^^^ (-1))))) s.heap H locs := hM
            rw [up_swap (i := 8) (j := 6) (by omega), up_swap (i := 7) (j := 6) (by omega), bx_uu] at hM
            refine hret _ _ _ _ _ _ d_Fl_take_113 hM ?_
            exfalso
            have := hst (rpl y zc).toNat (by omega) (by assumption)
            omega
          · skip
            refine lv_aload_n hx hb d_Fl_take_50 rfl (lv_at hl 1 rfl) ?_
            refine rd_get hC in_Fl hK hM.1 5 (cw_he (by omega) (cE_5)) rfl 4 (by decide) wf_Fl_25 rfl (v := .int (nI n)) (congrArg (fun z : Int32 => some (Value.int z)) ((pk_un (by omega)).trans ((pk_un (by omega)).trans (pk_us)))) d_Fl_take_51 ?_
            refine lv_sipush (v := 225) hx hb d_Fl_take_54 (by decide) ?_
            refine nc_ge hx hb n 225 (by omega) (by omega) d_Fl_take_57 (tgt := 81) (by decide) (fun h6 => ?_) (fun h6 => ?_)
            · skip
              refine lv_aload_n hx hb d_Fl_take_81 rfl (lv_at hl 1 rfl) ?_
              refine rd_get hC in_Fl hK hM.1 5 (cw_he (by omega) (cE_5)) rfl 2 (by decide) wf_Fl_19 rfl (v := .ref (X.1 7)) (rfl) d_Fl_take_82 ?_
              refine lv_iload hx hb d_Fl_take_85 (lv_at hl 0 rfl) ?_
              refine lv_dup2_11 hx hb d_Fl_take_87 rfl rfl ?_
              refine rd_iald hC hK hM.1 7 (cw_he (by omega) (cE_7)) ((rpl y zc).toNat) (i := iI (rpl y zc)) (by rw [nI_iI, Int.toNat_of_nonneg (by omega)]) (by omega) (by decide) (v := PD ((rpl y zc).toNat)) (congrFun ((va_up_ne _ _ (by omega)).trans (va_up_self _ _ _)) _) d_Fl_take_88 ?_
              refine lv_aload_n hx hb d_Fl_take_89 rfl (lv_at hl 1 rfl) ?_
              refine rd_get hC in_Fl hK hM.1 5 (cw_he (by omega) (cE_5)) rfl 0 (by decide) wf_Fl_9 rfl (v := .ref (X.1 6)) (rfl) d_Fl_take_90 ?_
              refine lv_iload hx hb d_Fl_take_93 (lv_at hl 0 rfl) ?_
              refine rd_iald hC hK hM.1 6 (cw_he (by omega) (cE_6)) ((rpl y zc).toNat) (i := iI (rpl y zc)) (by rw [nI_iI, Int.toNat_of_nonneg (by omega)]) (by omega) (by decide) (v := L ((rpl y zc).toNat)) (congrFun ((va_up_ne _ _ (by omega)).trans ((va_up_ne _ _ (by omega)).trans (va_up_self _ _ _))) _) d_Fl_take_95 ?_
              refine lv_iload_n hx hb d_Fl_take_96 rfl (lv_at hl 4 rfl) ?_
              refine lv_iand hx hb d_Fl_take_97 ?_
              refine lv_ior hx hb d_Fl_take_98 ?_
              refine co_iast hC hK hM 7 (by omega) (fun _ => rfl) ((rpl y zc).toNat) (i := iI (rpl y zc)) (x := (PD ((rpl y zc).toNat)) ||| ((L ((rpl y zc).toNat)) &&& bits)) (by rw [nI_iI, Int.toNat_of_nonneg (by omega)]) (by omega) (by decide) d_Fl_take_99 (fun H locs hM => ?_)
              replace hM : CO D cT (CA X) X (upd (upd (upd (upd I 51 (nI lr)) 54 (nI n)) 55 (nI sz)) 56 en) (va_up (va_up (va_up (va_up a 6 L) 7 PD) 8 SK) 7 (upd PD ((rpl y zc).toNat) ((PD ((rpl y zc).toNat)) ||| ((L ((rpl y zc).toNat)) &&& bits)))) s.heap H locs := hM
              rw [up_swap (i := 8) (j := 7) (by omega), bx_uu] at hM
              refine lv_aload_n hx hb d_Fl_take_100 rfl (lv_at hl 1 rfl) ?_
              refine rd_get hC in_Fl hK hM.1 5 (cw_he (by omega) (cE_5)) rfl 0 (by decide) wf_Fl_9 rfl (v := .ref (X.1 6)) (rfl) d_Fl_take_101 ?_
              refine lv_iload hx hb d_Fl_take_104 (lv_at hl 0 rfl) ?_
              refine lv_dup2_11 hx hb d_Fl_take_106 rfl rfl ?_
              refine rd_iald hC hK hM.1 6 (cw_he (by omega) (cE_6)) ((rpl y zc).toNat) (i := iI (rpl y zc)) (by rw [nI_iI, Int.toNat_of_nonneg (by omega)]) (by omega) (by decide) (v := L ((rpl y zc).toNat)) (congrFun ((va_up_ne _ _ (by omega)).trans ((va_up_ne _ _ (by omega)).trans (va_up_self _ _ _))) _) d_Fl_take_107 ?_
              refine lv_iload_n hx hb d_Fl_take_108 rfl (lv_at hl 4 rfl) ?_
              refine lv_iconst (v := (-1)) hx hb d_Fl_take_109 (by decide) ?_
              refine lv_ixor hx hb d_Fl_take_110 ?_
              refine lv_iand hx hb d_Fl_take_111 ?_
              refine co_iast hC hK hM 6 (by omega) (fun _ => rfl) ((rpl y zc).toNat) (i := iI (rpl y zc)) (x := (L ((rpl y zc).toNat)) &&& (bits ^^^ (-1))) (by rw [nI_iI, Int.toNat_of_nonneg (by omega)]) (by omega) (by decide) d_Fl_take_112 (fun H locs hM => ?_)
              replace hM : CO D cT (CA X) X (upd (upd (upd (upd I 51 (nI lr)) 54 (nI n)) 55 (nI sz)) 56 en) (va_up (va_up (va_up (va_up a 6 L) 7 (upd PD ((rpl y zc).toNat) ((PD ((rpl y zc).toNat)) ||| ((L ((rpl y zc).toNat)) &&& bits)))) 8 SK) 6 (upd L ((rpl y zc).toNat) ((L ((rpl y zc).toNat)) &&& (bits ^^^ (-1))))) s.heap H locs := hM
              rw [up_swap (i := 8) (j := 6) (by omega), up_swap (i := 7) (j := 6) (by omega), bx_uu] at hM
              refine hret _ _ _ _ _ _ d_Fl_take_113 hM ?_
              exfalso
              have := hst (rpl y zc).toNat (by omega) (by assumption)
              omega
            · skip
              refine lv_aload_n hx hb d_Fl_take_60 rfl (lv_at hl 1 rfl) ?_
              refine rd_get hC in_Fl hK hM.1 5 (cw_he (by omega) (cE_5)) rfl 3 (by decide) wf_Fl_22 rfl (v := .ref (X.1 8)) (rfl) d_Fl_take_61 ?_
              refine lv_aload_n hx hb d_Fl_take_64 rfl (lv_at hl 1 rfl) ?_
              refine rd_get hC in_Fl hK hM.1 5 (cw_he (by omega) (cE_5)) rfl 4 (by decide) wf_Fl_25 rfl (v := .int (nI n)) (congrArg (fun z : Int32 => some (Value.int z)) ((pk_un (by omega)).trans ((pk_un (by omega)).trans (pk_us)))) d_Fl_take_65 ?_
              refine lv_iload hx hb d_Fl_take_68 (lv_at hl 0 rfl) ?_
              refine co_iast hC hK hM 8 (by omega) (fun _ => rfl) n (i := nI n) (x := iI (rpl y zc)) (rfl) (by have := hst (rpl y zc).toNat (by omega) (by assumption); omega) (by decide) d_Fl_take_70 (fun H locs hM => ?_)
              replace hM : CO D cT (CA X) X (upd (upd (upd (upd I 51 (nI lr)) 54 (nI n)) 55 (nI sz)) 56 en) (va_up (va_up (va_up (va_up a 6 L) 7 PD) 8 SK) 8 (upd SK n (iI (rpl y zc)))) s.heap H locs := hM
              rw [bx_uu] at hM
              refine lv_aload_n hx hb d_Fl_take_71 rfl (lv_at hl 1 rfl) ?_
              refine lv_dup hx hb d_Fl_take_72 rfl ?_
              refine rd_get hC in_Fl hK hM.1 5 (cw_he (by omega) (cE_5)) rfl 4 (by decide) wf_Fl_25 rfl (v := .int (nI n)) (congrArg (fun z : Int32 => some (Value.int z)) ((pk_un (by omega)).trans ((pk_un (by omega)).trans (pk_us)))) d_Fl_take_73 ?_
              refine lv_iconst (v := 1) hx hb d_Fl_take_76 (by decide) ?_
              refine lv_iadd hx hb d_Fl_take_77 ?_
              refine topi_eq (nI_add n 1) ?_
              refine co_put hC in_Fl t_Fl t_Fl_ok n_Fl hK hM 5 (by omega) (cE_5) rfl 4 (by decide) wf_Fl_25 rfl rfl (ty := .int) (by decide +kernel) (x := nI (n + 1)) rfl rfl (Nat.le_of_ble_eq_true rfl) (by decide) (rfl) d_Fl_take_78 (fun H locs hM => ?_)
              replace hM : CO D cT (CA X) X (upd (upd (upd (upd (upd I 51 (nI lr)) 54 (nI n)) 55 (nI sz)) 56 en) 54 (nI (n + 1))) (va_up (va_up (va_up a 6 L) 7 PD) 8 (upd SK n (iI (rpl y zc)))) s.heap H locs := hM
              rw [upd_swap (i := 56) (j := 54) (by omega), upd_swap (i := 55) (j := 54) (by omega), upd_upd] at hM
              refine lv_aload_n hx hb d_Fl_take_81 rfl (lv_at hl 1 rfl) ?_
              refine rd_get hC in_Fl hK hM.1 5 (cw_he (by omega) (cE_5)) rfl 2 (by decide) wf_Fl_19 rfl (v := .ref (X.1 7)) (rfl) d_Fl_take_82 ?_
              refine lv_iload hx hb d_Fl_take_85 (lv_at hl 0 rfl) ?_
              refine lv_dup2_11 hx hb d_Fl_take_87 rfl rfl ?_
              refine rd_iald hC hK hM.1 7 (cw_he (by omega) (cE_7)) ((rpl y zc).toNat) (i := iI (rpl y zc)) (by rw [nI_iI, Int.toNat_of_nonneg (by omega)]) (by omega) (by decide) (v := PD ((rpl y zc).toNat)) (congrFun ((va_up_ne _ _ (by omega)).trans (va_up_self _ _ _)) _) d_Fl_take_88 ?_
              refine lv_aload_n hx hb d_Fl_take_89 rfl (lv_at hl 1 rfl) ?_
              refine rd_get hC in_Fl hK hM.1 5 (cw_he (by omega) (cE_5)) rfl 0 (by decide) wf_Fl_9 rfl (v := .ref (X.1 6)) (rfl) d_Fl_take_90 ?_
              refine lv_iload hx hb d_Fl_take_93 (lv_at hl 0 rfl) ?_
              refine rd_iald hC hK hM.1 6 (cw_he (by omega) (cE_6)) ((rpl y zc).toNat) (i := iI (rpl y zc)) (by rw [nI_iI, Int.toNat_of_nonneg (by omega)]) (by omega) (by decide) (v := L ((rpl y zc).toNat)) (congrFun ((va_up_ne _ _ (by omega)).trans ((va_up_ne _ _ (by omega)).trans (va_up_self _ _ _))) _) d_Fl_take_95 ?_
              refine lv_iload_n hx hb d_Fl_take_96 rfl (lv_at hl 4 rfl) ?_
              refine lv_iand hx hb d_Fl_take_97 ?_
              refine lv_ior hx hb d_Fl_take_98 ?_
              refine co_iast hC hK hM 7 (by omega) (fun _ => rfl) ((rpl y zc).toNat) (i := iI (rpl y zc)) (x := (PD ((rpl y zc).toNat)) ||| ((L ((rpl y zc).toNat)) &&& bits)) (by rw [nI_iI, Int.toNat_of_nonneg (by omega)]) (by omega) (by decide) d_Fl_take_99 (fun H locs hM => ?_)
              replace hM : CO D cT (CA X) X (upd (upd (upd (upd I 51 (nI lr)) 54 (nI (n + 1))) 55 (nI sz)) 56 en) (va_up (va_up (va_up (va_up a 6 L) 7 PD) 8 (upd SK n (iI (rpl y zc)))) 7 (upd PD ((rpl y zc).toNat) ((PD ((rpl y zc).toNat)) ||| ((L ((rpl y zc).toNat)) &&& bits)))) s.heap H locs := hM
              rw [up_swap (i := 8) (j := 7) (by omega), bx_uu] at hM
              refine lv_aload_n hx hb d_Fl_take_100 rfl (lv_at hl 1 rfl) ?_
              refine rd_get hC in_Fl hK hM.1 5 (cw_he (by omega) (cE_5)) rfl 0 (by decide) wf_Fl_9 rfl (v := .ref (X.1 6)) (rfl) d_Fl_take_101 ?_
              refine lv_iload hx hb d_Fl_take_104 (lv_at hl 0 rfl) ?_
              refine lv_dup2_11 hx hb d_Fl_take_106 rfl rfl ?_
              refine rd_iald hC hK hM.1 6 (cw_he (by omega) (cE_6)) ((rpl y zc).toNat) (i := iI (rpl y zc)) (by rw [nI_iI, Int.toNat_of_nonneg (by omega)]) (by omega) (by decide) (v := L ((rpl y zc).toNat)) (congrFun ((va_up_ne _ _ (by omega)).trans ((va_up_ne _ _ (by omega)).trans (va_up_self _ _ _))) _) d_Fl_take_107 ?_
              refine lv_iload_n hx hb d_Fl_take_108 rfl (lv_at hl 4 rfl) ?_
              refine lv_iconst (v := (-1)) hx hb d_Fl_take_109 (by decide) ?_
              refine lv_ixor hx hb d_Fl_take_110 ?_
              refine lv_iand hx hb d_Fl_take_111 ?_
              refine co_iast hC hK hM 6 (by omega) (fun _ => rfl) ((rpl y zc).toNat) (i := iI (rpl y zc)) (x := (L ((rpl y zc).toNat)) &&& (bits ^^^ (-1))) (by rw [nI_iI, Int.toNat_of_nonneg (by omega)]) (by omega) (by decide) d_Fl_take_112 (fun H locs hM => ?_)
              replace hM : CO D cT (CA X) X (upd (upd (upd (upd I 51 (nI lr)) 54 (nI (n + 1))) 55 (nI sz)) 56 en) (va_up (va_up (va_up (va_up a 6 L) 7 (upd PD ((rpl y zc).toNat) ((PD ((rpl y zc).toNat)) ||| ((L ((rpl y zc).toNat)) &&& bits)))) 8 (upd SK n (iI (rpl y zc)))) 6 (upd L ((rpl y zc).toNat) ((L ((rpl y zc).toNat)) &&& (bits ^^^ (-1))))) s.heap H locs := hM
              rw [up_swap (i := 8) (j := 6) (by omega), up_swap (i := 7) (j := 6) (by omega), bx_uu] at hM
              refine hret _ _ _ _ _ _ d_Fl_take_113 hM ?_
              refine ⟨_, _, _, _, rfl, ?_⟩
              refine Eq.symm ((if_neg (by omega)).trans ((if_neg h3).trans ?_))
              show (_, _, (if PD (rpl y zc).toNat = 0 then upd SK n (iI (rpl y zc)) else SK), (if PD (rpl y zc).toNat = 0 then n + 1 else n)) = _
              rw [if_pos h4, if_pos h4]
      · skip
        refine hret _ _ _ _ _ _ d_Fl_take_32 hM ?_
        refine ⟨_, _, _, _, rfl, ?_⟩
        exact ((if_neg (by omega)).trans (if_pos h3)).symm
set_option maxHeartbeats 400000 in
set_option maxRecDepth 100000 in
theorem c_Fl_spread (l : Launch) (D : va_G) (cT : Nat → ClassId) (X : CX) (I : Nat → Int32) (a : Nat → Nat → Int32) (q : Nat) (L PD SK : Nat → Int32) (lr n sz : Nat) (en : Int32)  (hq : q < 225) (hcn : cn (nzP PD) 225 = n + 1) (hz : ¬ PD q = 0) (hL : LO L) (hP : LO PD) (hen : en = 0 ∨ en = 1) : CMv l D cT X y_Fl_spread b_Fl_spread 5 none 2 46 [.ref (X.1 5), .int (nI q)] (upd (upd (upd (upd I 51 (nI lr)) 54 (nI n)) 55 (nI sz)) 56 en) (va_up (va_up (va_up a 6 L) 7 PD) 8 SK) (fun u => ∃ L' P' S' n' en', u = (upd (upd (upd (upd I 51 (nI lr)) 54 (nI n')) 55 (nI (sz + cn (bt (spB (L, PD, SK, n) q)) 16))) 56 en', va_up (va_up (va_up a 6 L') 7 P') 8 S') ∧ ((en' = 1 ∧ spE en q (spB (L, PD, SK, n) q)) ∨ (en' = 0 ∧ ¬ spE en q (spB (L, PD, SK, n) q))) ∧ (L', P', S', n') = spF (L, PD, SK, n) q) := by
  refine co_entv (own := R_Fl) (by decide) rfl (Nat.le_of_ble_eq_true rfl) ?_
  intro p e s m args below meth c Q hC hK hM hret ls hl
  have hx := hC.1
  have hb := hC.2.1
  replace hl : lv_has ls 5 [(0, .ref (X.1 5)), (1, .int (nI q))] := hl
  refine lv_iload_n hx hb d_Fl_spread_0 rfl (lv_at hl 1 rfl) ?_
  refine zz_lt hx hb (↑q : Int) (by omega) (by omega) d_Fl_spread_1 (tgt := 11) (by decide) (fun h1 => ?_) (fun h1 => ?_)
  · skip
    refine hret _ _ _ _ _ _ d_Fl_spread_11 hM ?_
    exfalso
    omega
  · skip
    refine lv_iload_n hx hb d_Fl_spread_4 rfl (lv_at hl 1 rfl) ?_
    refine lv_sipush (v := 225) hx hb d_Fl_spread_5 (by decide) ?_
    refine nc_lt hx hb q 225 (by omega) (by omega) d_Fl_spread_8 (tgt := 12) (by decide) (fun h2 => ?_) (fun h2 => ?_)
    · skip
      have hLq := hL q hq
      have hPq := hP q hq
      refine lv_aload_n hx hb d_Fl_spread_12 rfl (lv_at hl 0 rfl) ?_
      refine rd_get hC in_Fl hK hM.1 5 (cw_he (by omega) (cE_5)) rfl 2 (by decide) wf_Fl_19 rfl (v := .ref (X.1 7)) (rfl) d_Fl_spread_13 ?_
      refine lv_iload_n hx hb d_Fl_spread_16 rfl (lv_at hl 1 rfl) ?_
      refine rd_iald hC hK hM.1 7 (cw_he (by omega) (cE_7)) q (i := nI q) (rfl) (by omega) (by decide) (v := PD q) (congrFun ((va_up_ne _ _ (by omega)).trans (va_up_self _ _ _)) _) d_Fl_spread_17 ?_
      refine lv_aload_n hx hb d_Fl_spread_18 rfl (lv_at hl 0 rfl) ?_
      refine rd_get hC in_Fl hK hM.1 5 (cw_he (by omega) (cE_5)) rfl 0 (by decide) wf_Fl_9 rfl (v := .ref (X.1 6)) (rfl) d_Fl_spread_19 ?_
      refine lv_iload_n hx hb d_Fl_spread_22 rfl (lv_at hl 1 rfl) ?_
      refine rd_iald hC hK hM.1 6 (cw_he (by omega) (cE_6)) q (i := nI q) (rfl) (by omega) (by decide) (v := L q) (congrFun ((va_up_ne _ _ (by omega)).trans ((va_up_ne _ _ (by omega)).trans (va_up_self _ _ _))) _) d_Fl_spread_23 ?_
      refine st_calli (np := 2) hC (c_Fl_grown l (PD q) (L q)) ⟨wl_Fl_73, wt_Fl_grown, wc_Fl_grown, wn_Fl⟩ ⟨by decide, by decide, by decide +kernel⟩ ⟨Nat.le_of_ble_eq_true rfl, Nat.le_of_ble_eq_true rfl⟩ hl.1 rfl (rest := []) rfl (Nat.le_of_ble_eq_true rfl) ⟨Nat.zero_le _, Nat.zero_le _⟩ d_Fl_spread_24 (fun rr hrr => ?_)
      subst hrr
      refine lv_istore_n (lv' := [(2, .int (grN (L q) (PD q) 14)), (0, .ref (X.1 5)), (1, .int (nI q))]) hx hb d_Fl_spread_27 rfl hl (by decide) rfl (fun ls hl => ?_)
      refine lv_aload_n hx hb d_Fl_spread_28 rfl (lv_at hl 1 rfl) ?_
      refine rd_get hC in_Fl hK hM.1 5 (cw_he (by omega) (cE_5)) rfl 0 (by decide) wf_Fl_9 rfl (v := .ref (X.1 6)) (rfl) d_Fl_spread_29 ?_
      refine lv_iload_n hx hb d_Fl_spread_32 rfl (lv_at hl 2 rfl) ?_
      refine lv_dup2_11 hx hb d_Fl_spread_33 rfl rfl ?_
      refine rd_iald hC hK hM.1 6 (cw_he (by omega) (cE_6)) q (i := nI q) (rfl) (by omega) (by decide) (v := L q) (congrFun ((va_up_ne _ _ (by omega)).trans ((va_up_ne _ _ (by omega)).trans (va_up_self _ _ _))) _) d_Fl_spread_34 ?_
      refine lv_iload_n hx hb d_Fl_spread_35 rfl (lv_at hl 0 rfl) ?_
      refine lv_iconst (v := (-1)) hx hb d_Fl_spread_36 (by decide) ?_
      refine lv_ixor hx hb d_Fl_spread_37 ?_
      refine lv_iand hx hb d_Fl_spread_38 ?_
      refine co_iast hC hK hM 6 (by omega) (fun _ => rfl) q (i := nI q) (x := (L q) &&& ((grN (L q) (PD q) 14) ^^^ (-1))) (rfl) (by omega) (by decide) d_Fl_spread_39 (fun H locs hM => ?_)
      replace hM : CO D cT (CA X) X (upd (upd (upd (upd I 51 (nI lr)) 54 (nI n)) 55 (nI sz)) 56 en) (va_up (va_up (va_up (va_up a 6 L) 7 PD) 8 SK) 6 (upd L q ((L q) &&& ((grN (L q) (PD q) 14) ^^^ (-1))))) s.heap H locs := hM
      rw [up_swap (i := 8) (j := 6) (by omega), up_swap (i := 7) (j := 6) (by omega), bx_uu] at hM
      refine lv_aload_n hx hb d_Fl_spread_40 rfl (lv_at hl 1 rfl) ?_
      refine rd_get hC in_Fl hK hM.1 5 (cw_he (by omega) (cE_5)) rfl 2 (by decide) wf_Fl_19 rfl (v := .ref (X.1 7)) (rfl) d_Fl_spread_41 ?_
      refine lv_iload_n hx hb d_Fl_spread_44 rfl (lv_at hl 2 rfl) ?_
      refine lv_iconst (v := 0) hx hb d_Fl_spread_45 (by decide) ?_
      refine co_iast hC hK hM 7 (by omega) (fun _ => rfl) q (i := nI q) (x := 0) (rfl) (by omega) (by decide) d_Fl_spread_46 (fun H locs hM => ?_)
      replace hM : CO D cT (CA X) X (upd (upd (upd (upd I 51 (nI lr)) 54 (nI n)) 55 (nI sz)) 56 en) (va_up (va_up (va_up (va_up a 6 (upd L q ((L q) &&& ((grN (L q) (PD q) 14) ^^^ (-1))))) 7 PD) 8 SK) 7 (upd PD q 0)) s.heap H locs := hM
      rw [up_swap (i := 8) (j := 7) (by omega), bx_uu] at hM
      refine lv_iload_n hx hb d_Fl_spread_47 rfl (lv_at hl 2 rfl) ?_
      refine st_calli (np := 1) hC (c_Fl_yOf l q (by omega)) ⟨wl_Fl_35, wt_Fl_yOf, wc_Fl_yOf, wn_Fl⟩ ⟨by decide, by decide, by decide +kernel⟩ ⟨Nat.le_of_ble_eq_true rfl, Nat.le_of_ble_eq_true rfl⟩ hl.1 rfl (rest := []) rfl (Nat.le_of_ble_eq_true rfl) ⟨Nat.zero_le _, Nat.zero_le _⟩ d_Fl_spread_48 (fun rr hrr => ?_)
      subst hrr
      refine lv_istore_n (lv' := [(3, .int (iI ((↑(q % 15) : Int) + (-7)))), (2, .int (grN (L q) (PD q) 14)), (0, .ref (X.1 5)), (1, .int (nI q))]) hx hb d_Fl_spread_51 rfl hl (by decide) rfl (fun ls hl => ?_)
      refine lv_iload_n hx hb d_Fl_spread_52 rfl (lv_at hl 3 rfl) ?_
      refine st_calli (np := 1) hC (c_Fl_zOf l q (by omega)) ⟨wl_Fl_39, wt_Fl_zOf, wc_Fl_zOf, wn_Fl⟩ ⟨by decide, by decide, by decide +kernel⟩ ⟨Nat.le_of_ble_eq_true rfl, Nat.le_of_ble_eq_true rfl⟩ hl.1 rfl (rest := []) rfl (Nat.le_of_ble_eq_true rfl) ⟨Nat.zero_le _, Nat.zero_le _⟩ d_Fl_spread_53 (fun rr hrr => ?_)
      subst hrr
      refine lv_istore (lv' := [(4, .int (iI ((↑(q / 15) : Int) + (-7)))), (3, .int (iI ((↑(q % 15) : Int) + (-7)))), (2, .int (grN (L q) (PD q) 14)), (0, .ref (X.1 5)), (1, .int (nI q))]) hx hb d_Fl_spread_56 hl (by decide) rfl (fun ls hl => ?_)
      refine lv_aload_n hx hb d_Fl_spread_58 rfl (lv_at hl 3 rfl) ?_
      refine lv_dup hx hb d_Fl_spread_59 rfl ?_
      refine rd_get hC in_Fl hK hM.1 5 (cw_he (by omega) (cE_5)) rfl 5 (by decide) wf_Fl_28 rfl (v := .int (nI sz)) (congrArg (fun z : Int32 => some (Value.int z)) ((pk_un (by omega)).trans (pk_us))) d_Fl_spread_60 ?_
      refine lv_iload_n hx hb d_Fl_spread_63 rfl (lv_at hl 2 rfl) ?_
      refine st_calli (np := 1) hC (c_In_bitCount l (grN (L q) (PD q) 14) (lo_grN hLq hPq 14)) ⟨wl_Fl_76, wt_In_bitCount, wc_In_bitCount, wn_In⟩ ⟨by decide, by decide, by decide +kernel⟩ ⟨Nat.le_of_ble_eq_true rfl, Nat.le_of_ble_eq_true rfl⟩ hl.1 rfl (rest := [.int (nI sz), .ref (X.1 5)]) rfl (Nat.le_of_ble_eq_true rfl) ⟨Nat.zero_le _, Nat.zero_le _⟩ d_Fl_spread_64 (fun rr hrr => ?_)
      subst hrr
      refine lv_iadd hx hb d_Fl_spread_67 ?_
      refine topi_eq (nI_add sz (cn (bt (grN (L q) (PD q) 14)) 16)) ?_
      refine co_put hC in_Fl t_Fl t_Fl_ok n_Fl hK hM 5 (by omega) (cE_5) rfl 5 (by decide) wf_Fl_28 rfl rfl (ty := .int) (by decide +kernel) (x := nI (sz + (cn (bt (grN (L q) (PD q) 14)) 16))) rfl rfl (Nat.le_of_ble_eq_true rfl) (by decide) (rfl) d_Fl_spread_68 (fun H locs hM => ?_)
      replace hM : CO D cT (CA X) X (upd (upd (upd (upd (upd I 51 (nI lr)) 54 (nI n)) 55 (nI sz)) 56 en) 55 (nI (sz + (cn (bt (grN (L q) (PD q) 14)) 16)))) (va_up (va_up (va_up a 6 (upd L q ((L q) &&& ((grN (L q) (PD q) 14) ^^^ (-1))))) 7 (upd PD q 0)) 8 SK) s.heap H locs := hM
      rw [upd_swap (i := 56) (j := 55) (by omega), upd_upd] at hM
      refine lv_aload_n hx hb d_Fl_spread_71 rfl (lv_at hl 3 rfl) ?_
      refine lv_aload_n hx hb d_Fl_spread_72 rfl (lv_at hl 3 rfl) ?_
      refine rd_get hC in_Fl hK hM.1 5 (cw_he (by omega) (cE_5)) rfl 6 (by decide) wf_Fl_31 rfl (v := .int en) (congrArg (fun z : Int32 => some (Value.int z)) (pk_us)) d_Fl_spread_73 ?_
      refine lv_if_ne (tgt := 101) hx hb d_Fl_spread_76 (by decide) (fun h3 => ?_) (fun h3 => ?_)
      · skip
        refine lv_iconst (v := 1) hx hb d_Fl_spread_101 (by decide) ?_
        refine lv_goto (tgt := 106) hx hb d_Fl_spread_102 (by decide) ?_
        refine co_put hC in_Fl t_Fl t_Fl_ok n_Fl hK hM 5 (by omega) (cE_5) rfl 6 (by decide) wf_Fl_31 rfl rfl (ty := .boolean) (by decide +kernel) (x := 1) (vz_in (by first | exact Or.inl rfl | exact Or.inr rfl | exact bI_01 | assumption)).1 (vz_in (by first | exact Or.inl rfl | exact Or.inr rfl | exact bI_01 | assumption)).2 (Nat.le_of_ble_eq_true rfl) (by decide) (rfl) d_Fl_spread_106 (fun H locs hM => ?_)
        replace hM : CO D cT (CA X) X (upd (upd (upd (upd (upd I 51 (nI lr)) 54 (nI n)) 55 (nI (sz + (cn (bt (grN (L q) (PD q) 14)) 16)))) 56 en) 56 1) (va_up (va_up (va_up a 6 (upd L q ((L q) &&& ((grN (L q) (PD q) 14) ^^^ (-1))))) 7 (upd PD q 0)) 8 SK) s.heap H locs := hM
        rw [upd_upd] at hM
        have c0 : cn (nzP (upd PD q 0)) 225 = n := sp0_cn (s := (L, PD, SK, n)) hq hcn hz
        have m0 : n ≤ 225 := by rw [← c0]; exact cn_le _ _
        refine lv_aload_n hx hb d_Fl_spread_109 rfl (lv_at hl 3 rfl) ?_
        refine lv_iload_n hx hb d_Fl_spread_110 rfl (lv_at hl 1 rfl) ?_
        refine lv_iconst (v := 1) hx hb d_Fl_spread_111 (by decide) ?_
        refine lv_isub hx hb d_Fl_spread_112 ?_
        refine topi_eq (iI_sub ((↑(q % 15) : Int) + (-7)) 1) ?_
        refine lv_iload hx hb d_Fl_spread_113 (lv_at hl 0 rfl) ?_
        refine lv_iload_n hx hb d_Fl_spread_115 rfl (lv_at hl 2 rfl) ?_
        refine co_callv (np := 3) hC hK hM (k := 5) (by omega) (cE_5) rfl (c_Fl_take l D cT X I a (((↑(q % 15) : Int) + (-7)) - 1) ((↑(q / 15) : Int) + (-7)) (grN (L q) (PD q) 14) (upd L q ((L q) &&& ((grN (L q) (PD q) 14) ^^^ (-1)))) (upd PD q 0) SK lr n (sz + (cn (bt (grN (L q) (PD q) 14)) 16)) 1 (fun q9 hq9 hz9 => nz_lt c0 hq9 hz9) m0 (by omega) (by omega) (by omega) (by omega)) rfl ⟨wl_Fl_65, wi_Fl_take, ws_Fl_take, wc_Fl_take, wn_Fl⟩ ⟨by decide, by decide, by decide +kernel⟩ ⟨Nat.le_of_ble_eq_true rfl, Nat.le_of_ble_eq_true rfl⟩ hl.1 rfl (rest := []) rfl (Nat.le_of_ble_eq_true rfl) ⟨Nat.zero_le _, Nat.zero_le _⟩ d_Fl_spread_116 (fun I4 a4 H locs hp4 hM => ?_)
        obtain ⟨L4, P4, S4, n4, e4, hr4⟩ := hp4
        cases e4
        have c1 := tkF_cn hr4 c0
        replace c1 : cn (nzP P4) 225 = n4 := c1
        have m1 : n4 ≤ 225 := by rw [← c1]; exact cn_le _ _
        refine lv_aload_n hx hb d_Fl_spread_119 rfl (lv_at hl 3 rfl) ?_
        refine lv_iload_n hx hb d_Fl_spread_120 rfl (lv_at hl 1 rfl) ?_
        refine lv_iconst (v := 1) hx hb d_Fl_spread_121 (by decide) ?_
        refine lv_iadd hx hb d_Fl_spread_122 ?_
        refine topi_eq (iI_add ((↑(q % 15) : Int) + (-7)) 1) ?_
        refine lv_iload hx hb d_Fl_spread_123 (lv_at hl 0 rfl) ?_
        refine lv_iload_n hx hb d_Fl_spread_125 rfl (lv_at hl 2 rfl) ?_
        refine co_callv (np := 3) hC hK hM (k := 5) (by omega) (cE_5) rfl (c_Fl_take l D cT X I a (((↑(q % 15) : Int) + (-7)) + 1) ((↑(q / 15) : Int) + (-7)) (grN (L q) (PD q) 14) L4 P4 S4 lr n4 (sz + (cn (bt (grN (L q) (PD q) 14)) 16)) 1 (fun q9 hq9 hz9 => nz_lt c1 hq9 hz9) m1 (by omega) (by omega) (by omega) (by omega)) rfl ⟨wl_Fl_65, wi_Fl_take, ws_Fl_take, wc_Fl_take, wn_Fl⟩ ⟨by decide, by decide, by decide +kernel⟩ ⟨Nat.le_of_ble_eq_true rfl, Nat.le_of_ble_eq_true rfl⟩ hl.1 rfl (rest := []) rfl (Nat.le_of_ble_eq_true rfl) ⟨Nat.zero_le _, Nat.zero_le _⟩ d_Fl_spread_126 (fun I5 a5 H locs hp5 hM => ?_)
        obtain ⟨L5, P5, S5, n5, e5, hr5⟩ := hp5
        cases e5
        have c2 := tkF_cn hr5 c1
        replace c2 : cn (nzP P5) 225 = n5 := c2
        have m2 : n5 ≤ 225 := by rw [← c2]; exact cn_le _ _
        refine lv_aload_n hx hb d_Fl_spread_129 rfl (lv_at hl 3 rfl) ?_
        refine lv_iload_n hx hb d_Fl_spread_130 rfl (lv_at hl 1 rfl) ?_
        refine lv_iload hx hb d_Fl_spread_131 (lv_at hl 0 rfl) ?_
        refine lv_iconst (v := 1) hx hb d_Fl_spread_133 (by decide) ?_
        refine lv_isub hx hb d_Fl_spread_134 ?_
        refine topi_eq (iI_sub ((↑(q / 15) : Int) + (-7)) 1) ?_
        refine lv_iload_n hx hb d_Fl_spread_135 rfl (lv_at hl 2 rfl) ?_
        refine co_callv (np := 3) hC hK hM (k := 5) (by omega) (cE_5) rfl (c_Fl_take l D cT X I a ((↑(q % 15) : Int) + (-7)) (((↑(q / 15) : Int) + (-7)) - 1) (grN (L q) (PD q) 14) L5 P5 S5 lr n5 (sz + (cn (bt (grN (L q) (PD q) 14)) 16)) 1 (fun q9 hq9 hz9 => nz_lt c2 hq9 hz9) m2 (by omega) (by omega) (by omega) (by omega)) rfl ⟨wl_Fl_65, wi_Fl_take, ws_Fl_take, wc_Fl_take, wn_Fl⟩ ⟨by decide, by decide, by decide +kernel⟩ ⟨Nat.le_of_ble_eq_true rfl, Nat.le_of_ble_eq_true rfl⟩ hl.1 rfl (rest := []) rfl (Nat.le_of_ble_eq_true rfl) ⟨Nat.zero_le _, Nat.zero_le _⟩ d_Fl_spread_136 (fun I6 a6 H locs hp6 hM => ?_)
        obtain ⟨L6, P6, S6, n6, e6, hr6⟩ := hp6
        cases e6
        have c3 := tkF_cn hr6 c2
        replace c3 : cn (nzP P6) 225 = n6 := c3
        have m3 : n6 ≤ 225 := by rw [← c3]; exact cn_le _ _
        refine lv_aload_n hx hb d_Fl_spread_139 rfl (lv_at hl 3 rfl) ?_
        refine lv_iload_n hx hb d_Fl_spread_140 rfl (lv_at hl 1 rfl) ?_
        refine lv_iload hx hb d_Fl_spread_141 (lv_at hl 0 rfl) ?_
        refine lv_iconst (v := 1) hx hb d_Fl_spread_143 (by decide) ?_
        refine lv_iadd hx hb d_Fl_spread_144 ?_
        refine topi_eq (iI_add ((↑(q / 15) : Int) + (-7)) 1) ?_
        refine lv_iload_n hx hb d_Fl_spread_145 rfl (lv_at hl 2 rfl) ?_
        refine co_callv (np := 3) hC hK hM (k := 5) (by omega) (cE_5) rfl (c_Fl_take l D cT X I a ((↑(q % 15) : Int) + (-7)) (((↑(q / 15) : Int) + (-7)) + 1) (grN (L q) (PD q) 14) L6 P6 S6 lr n6 (sz + (cn (bt (grN (L q) (PD q) 14)) 16)) 1 (fun q9 hq9 hz9 => nz_lt c3 hq9 hz9) m3 (by omega) (by omega) (by omega) (by omega)) rfl ⟨wl_Fl_65, wi_Fl_take, ws_Fl_take, wc_Fl_take, wn_Fl⟩ ⟨by decide, by decide, by decide +kernel⟩ ⟨Nat.le_of_ble_eq_true rfl, Nat.le_of_ble_eq_true rfl⟩ hl.1 rfl (rest := []) rfl (Nat.le_of_ble_eq_true rfl) ⟨Nat.zero_le _, Nat.zero_le _⟩ d_Fl_spread_146 (fun I7 a7 H locs hp7 hM => ?_)
        obtain ⟨L7, P7, S7, n7, e7, hr7⟩ := hp7
        cases e7
        refine hret _ _ _ _ _ _ d_Fl_spread_149 hM ?_
        refine ⟨_, _, _, _, _, rfl, Or.inl ⟨rfl, by first | exact Or.inl (by assumption) | exact Or.inr (Or.inl (by assumption)) | exact Or.inr (Or.inr (Or.inl (by assumption))) | exact Or.inr (Or.inr (Or.inr (by assumption)))⟩, ?_⟩
        rw [hr7, hr6, hr5, hr4]
        rfl
      · skip
        refine lv_iload_n hx hb d_Fl_spread_79 rfl (lv_at hl 1 rfl) ?_
        refine st_calli (np := 1) hC (c_Fl_isAtEnd l ((↑(q % 15) : Int) + (-7)) (by omega) (by omega)) ⟨wl_Fl_81, wt_Fl_isAtEnd, wc_Fl_isAtEnd, wn_Fl⟩ ⟨by decide, by decide, by decide +kernel⟩ ⟨Nat.le_of_ble_eq_true rfl, Nat.le_of_ble_eq_true rfl⟩ hl.1 rfl (rest := [.ref (X.1 5)]) rfl (Nat.le_of_ble_eq_true rfl) ⟨Nat.zero_le _, Nat.zero_le _⟩ d_Fl_spread_80 (fun rr hrr => ?_)
        subst hrr
        refine bz_ne (tgt := 101) hx hb d_Fl_spread_83 (by decide) (fun h8 => ?_) (fun h8 => ?_)
        · skip
          refine lv_iconst (v := 1) hx hb d_Fl_spread_101 (by decide) ?_
          refine lv_goto (tgt := 106) hx hb d_Fl_spread_102 (by decide) ?_
          refine co_put hC in_Fl t_Fl t_Fl_ok n_Fl hK hM 5 (by omega) (cE_5) rfl 6 (by decide) wf_Fl_31 rfl rfl (ty := .boolean) (by decide +kernel) (x := 1) (vz_in (by first | exact Or.inl rfl | exact Or.inr rfl | exact bI_01 | assumption)).1 (vz_in (by first | exact Or.inl rfl | exact Or.inr rfl | exact bI_01 | assumption)).2 (Nat.le_of_ble_eq_true rfl) (by decide) (rfl) d_Fl_spread_106 (fun H locs hM => ?_)
          replace hM : CO D cT (CA X) X (upd (upd (upd (upd (upd I 51 (nI lr)) 54 (nI n)) 55 (nI (sz + (cn (bt (grN (L q) (PD q) 14)) 16)))) 56 en) 56 1) (va_up (va_up (va_up a 6 (upd L q ((L q) &&& ((grN (L q) (PD q) 14) ^^^ (-1))))) 7 (upd PD q 0)) 8 SK) s.heap H locs := hM
          rw [upd_upd] at hM
          have c0 : cn (nzP (upd PD q 0)) 225 = n := sp0_cn (s := (L, PD, SK, n)) hq hcn hz
          have m0 : n ≤ 225 := by rw [← c0]; exact cn_le _ _
          refine lv_aload_n hx hb d_Fl_spread_109 rfl (lv_at hl 3 rfl) ?_
          refine lv_iload_n hx hb d_Fl_spread_110 rfl (lv_at hl 1 rfl) ?_
          refine lv_iconst (v := 1) hx hb d_Fl_spread_111 (by decide) ?_
          refine lv_isub hx hb d_Fl_spread_112 ?_
          refine topi_eq (iI_sub ((↑(q % 15) : Int) + (-7)) 1) ?_
          refine lv_iload hx hb d_Fl_spread_113 (lv_at hl 0 rfl) ?_
          refine lv_iload_n hx hb d_Fl_spread_115 rfl (lv_at hl 2 rfl) ?_
          refine co_callv (np := 3) hC hK hM (k := 5) (by omega) (cE_5) rfl (c_Fl_take l D cT X I a (((↑(q % 15) : Int) + (-7)) - 1) ((↑(q / 15) : Int) + (-7)) (grN (L q) (PD q) 14) (upd L q ((L q) &&& ((grN (L q) (PD q) 14) ^^^ (-1)))) (upd PD q 0) SK lr n (sz + (cn (bt (grN (L q) (PD q) 14)) 16)) 1 (fun q9 hq9 hz9 => nz_lt c0 hq9 hz9) m0 (by omega) (by omega) (by omega) (by omega)) rfl ⟨wl_Fl_65, wi_Fl_take, ws_Fl_take, wc_Fl_take, wn_Fl⟩ ⟨by decide, by decide, by decide +kernel⟩ ⟨Nat.le_of_ble_eq_true rfl, Nat.le_of_ble_eq_true rfl⟩ hl.1 rfl (rest := []) rfl (Nat.le_of_ble_eq_true rfl) ⟨Nat.zero_le _, Nat.zero_le _⟩ d_Fl_spread_116 (fun I9 a9 H locs hp9 hM => ?_)
          obtain ⟨L9, P9, S9, n9, e9, hr9⟩ := hp9
          cases e9
          have c1 := tkF_cn hr9 c0
          replace c1 : cn (nzP P9) 225 = n9 := c1
          have m1 : n9 ≤ 225 := by rw [← c1]; exact cn_le _ _
          refine lv_aload_n hx hb d_Fl_spread_119 rfl (lv_at hl 3 rfl) ?_
          refine lv_iload_n hx hb d_Fl_spread_120 rfl (lv_at hl 1 rfl) ?_
          refine lv_iconst (v := 1) hx hb d_Fl_spread_121 (by decide) ?_
          refine lv_iadd hx hb d_Fl_spread_122 ?_
          refine topi_eq (iI_add ((↑(q % 15) : Int) + (-7)) 1) ?_
          refine lv_iload hx hb d_Fl_spread_123 (lv_at hl 0 rfl) ?_
          refine lv_iload_n hx hb d_Fl_spread_125 rfl (lv_at hl 2 rfl) ?_
          refine co_callv (np := 3) hC hK hM (k := 5) (by omega) (cE_5) rfl (c_Fl_take l D cT X I a (((↑(q % 15) : Int) + (-7)) + 1) ((↑(q / 15) : Int) + (-7)) (grN (L q) (PD q) 14) L9 P9 S9 lr n9 (sz + (cn (bt (grN (L q) (PD q) 14)) 16)) 1 (fun q9 hq9 hz9 => nz_lt c1 hq9 hz9) m1 (by omega) (by omega) (by omega) (by omega)) rfl ⟨wl_Fl_65, wi_Fl_take, ws_Fl_take, wc_Fl_take, wn_Fl⟩ ⟨by decide, by decide, by decide +kernel⟩ ⟨Nat.le_of_ble_eq_true rfl, Nat.le_of_ble_eq_true rfl⟩ hl.1 rfl (rest := []) rfl (Nat.le_of_ble_eq_true rfl) ⟨Nat.zero_le _, Nat.zero_le _⟩ d_Fl_spread_126 (fun I10 a10 H locs hp10 hM => ?_)
          obtain ⟨L10, P10, S10, n10, e10, hr10⟩ := hp10
          cases e10
          have c2 := tkF_cn hr10 c1
          replace c2 : cn (nzP P10) 225 = n10 := c2
          have m2 : n10 ≤ 225 := by rw [← c2]; exact cn_le _ _
          refine lv_aload_n hx hb d_Fl_spread_129 rfl (lv_at hl 3 rfl) ?_
          refine lv_iload_n hx hb d_Fl_spread_130 rfl (lv_at hl 1 rfl) ?_
          refine lv_iload hx hb d_Fl_spread_131 (lv_at hl 0 rfl) ?_
          refine lv_iconst (v := 1) hx hb d_Fl_spread_133 (by decide) ?_
          refine lv_isub hx hb d_Fl_spread_134 ?_
          refine topi_eq (iI_sub ((↑(q / 15) : Int) + (-7)) 1) ?_
          refine lv_iload_n hx hb d_Fl_spread_135 rfl (lv_at hl 2 rfl) ?_
          refine co_callv (np := 3) hC hK hM (k := 5) (by omega) (cE_5) rfl (c_Fl_take l D cT X I a ((↑(q % 15) : Int) + (-7)) (((↑(q / 15) : Int) + (-7)) - 1) (grN (L q) (PD q) 14) L10 P10 S10 lr n10 (sz + (cn (bt (grN (L q) (PD q) 14)) 16)) 1 (fun q9 hq9 hz9 => nz_lt c2 hq9 hz9) m2 (by omega) (by omega) (by omega) (by omega)) rfl ⟨wl_Fl_65, wi_Fl_take, ws_Fl_take, wc_Fl_take, wn_Fl⟩ ⟨by decide, by decide, by decide +kernel⟩ ⟨Nat.le_of_ble_eq_true rfl, Nat.le_of_ble_eq_true rfl⟩ hl.1 rfl (rest := []) rfl (Nat.le_of_ble_eq_true rfl) ⟨Nat.zero_le _, Nat.zero_le _⟩ d_Fl_spread_136 (fun I11 a11 H locs hp11 hM => ?_)
          obtain ⟨L11, P11, S11, n11, e11, hr11⟩ := hp11
          cases e11
          have c3 := tkF_cn hr11 c2
          replace c3 : cn (nzP P11) 225 = n11 := c3
          have m3 : n11 ≤ 225 := by rw [← c3]; exact cn_le _ _
          refine lv_aload_n hx hb d_Fl_spread_139 rfl (lv_at hl 3 rfl) ?_
          refine lv_iload_n hx hb d_Fl_spread_140 rfl (lv_at hl 1 rfl) ?_
          refine lv_iload hx hb d_Fl_spread_141 (lv_at hl 0 rfl) ?_
          refine lv_iconst (v := 1) hx hb d_Fl_spread_143 (by decide) ?_
          refine lv_iadd hx hb d_Fl_spread_144 ?_
          refine topi_eq (iI_add ((↑(q / 15) : Int) + (-7)) 1) ?_
          refine lv_iload_n hx hb d_Fl_spread_145 rfl (lv_at hl 2 rfl) ?_
          refine co_callv (np := 3) hC hK hM (k := 5) (by omega) (cE_5) rfl (c_Fl_take l D cT X I a ((↑(q % 15) : Int) + (-7)) (((↑(q / 15) : Int) + (-7)) + 1) (grN (L q) (PD q) 14) L11 P11 S11 lr n11 (sz + (cn (bt (grN (L q) (PD q) 14)) 16)) 1 (fun q9 hq9 hz9 => nz_lt c3 hq9 hz9) m3 (by omega) (by omega) (by omega) (by omega)) rfl ⟨wl_Fl_65, wi_Fl_take, ws_Fl_take, wc_Fl_take, wn_Fl⟩ ⟨by decide, by decide, by decide +kernel⟩ ⟨Nat.le_of_ble_eq_true rfl, Nat.le_of_ble_eq_true rfl⟩ hl.1 rfl (rest := []) rfl (Nat.le_of_ble_eq_true rfl) ⟨Nat.zero_le _, Nat.zero_le _⟩ d_Fl_spread_146 (fun I12 a12 H locs hp12 hM => ?_)
          obtain ⟨L12, P12, S12, n12, e12, hr12⟩ := hp12
          cases e12
          refine hret _ _ _ _ _ _ d_Fl_spread_149 hM ?_
          refine ⟨_, _, _, _, _, rfl, Or.inl ⟨rfl, by first | exact Or.inl (by assumption) | exact Or.inr (Or.inl (by assumption)) | exact Or.inr (Or.inr (Or.inl (by assumption))) | exact Or.inr (Or.inr (Or.inr (by assumption)))⟩, ?_⟩
          rw [hr12, hr11, hr10, hr9]
          rfl
        · skip
          refine lv_iload hx hb d_Fl_spread_86 (lv_at hl 0 rfl) ?_
          refine st_calli (np := 1) hC (c_Fl_isAtEnd l ((↑(q / 15) : Int) + (-7)) (by omega) (by omega)) ⟨wl_Fl_81, wt_Fl_isAtEnd, wc_Fl_isAtEnd, wn_Fl⟩ ⟨by decide, by decide, by decide +kernel⟩ ⟨Nat.le_of_ble_eq_true rfl, Nat.le_of_ble_eq_true rfl⟩ hl.1 rfl (rest := [.ref (X.1 5)]) rfl (Nat.le_of_ble_eq_true rfl) ⟨Nat.zero_le _, Nat.zero_le _⟩ d_Fl_spread_88 (fun rr hrr => ?_)
          subst hrr
          refine bz_ne (tgt := 101) hx hb d_Fl_spread_91 (by decide) (fun h13 => ?_) (fun h13 => ?_)
          · skip
            refine lv_iconst (v := 1) hx hb d_Fl_spread_101 (by decide) ?_
            refine lv_goto (tgt := 106) hx hb d_Fl_spread_102 (by decide) ?_
            refine co_put hC in_Fl t_Fl t_Fl_ok n_Fl hK hM 5 (by omega) (cE_5) rfl 6 (by decide) wf_Fl_31 rfl rfl (ty := .boolean) (by decide +kernel) (x := 1) (vz_in (by first | exact Or.inl rfl | exact Or.inr rfl | exact bI_01 | assumption)).1 (vz_in (by first | exact Or.inl rfl | exact Or.inr rfl | exact bI_01 | assumption)).2 (Nat.le_of_ble_eq_true rfl) (by decide) (rfl) d_Fl_spread_106 (fun H locs hM => ?_)
            replace hM : CO D cT (CA X) X (upd (upd (upd (upd (upd I 51 (nI lr)) 54 (nI n)) 55 (nI (sz + (cn (bt (grN (L q) (PD q) 14)) 16)))) 56 en) 56 1) (va_up (va_up (va_up a 6 (upd L q ((L q) &&& ((grN (L q) (PD q) 14) ^^^ (-1))))) 7 (upd PD q 0)) 8 SK) s.heap H locs := hM
            rw [upd_upd] at hM
            have c0 : cn (nzP (upd PD q 0)) 225 = n := sp0_cn (s := (L, PD, SK, n)) hq hcn hz
            have m0 : n ≤ 225 := by rw [← c0]; exact cn_le _ _
            refine lv_aload_n hx hb d_Fl_spread_109 rfl (lv_at hl 3 rfl) ?_
            refine lv_iload_n hx hb d_Fl_spread_110 rfl (lv_at hl 1 rfl) ?_
            refine lv_iconst (v := 1) hx hb d_Fl_spread_111 (by decide) ?_
            refine lv_isub hx hb d_Fl_spread_112 ?_
            refine topi_eq (iI_sub ((↑(q % 15) : Int) + (-7)) 1) ?_
            refine lv_iload hx hb d_Fl_spread_113 (lv_at hl 0 rfl) ?_
            refine lv_iload_n hx hb d_Fl_spread_115 rfl (lv_at hl 2 rfl) ?_
            refine co_callv (np := 3) hC hK hM (k := 5) (by omega) (cE_5) rfl (c_Fl_take l D cT X I a (((↑(q % 15) : Int) + (-7)) - 1) ((↑(q / 15) : Int) + (-7)) (grN (L q) (PD q) 14) (upd L q ((L q) &&& ((grN (L q) (PD q) 14) ^^^ (-1)))) (upd PD q 0) SK lr n (sz + (cn (bt (grN (L q) (PD q) 14)) 16)) 1 (fun q9 hq9 hz9 => nz_lt c0 hq9 hz9) m0 (by omega) (by omega) (by omega) (by omega)) rfl ⟨wl_Fl_65, wi_Fl_take, ws_Fl_take, wc_Fl_take, wn_Fl⟩ ⟨by decide, by decide, by decide +kernel⟩ ⟨Nat.le_of_ble_eq_true rfl, Nat.le_of_ble_eq_true rfl⟩ hl.1 rfl (rest := []) rfl (Nat.le_of_ble_eq_true rfl) ⟨Nat.zero_le _, Nat.zero_le _⟩ d_Fl_spread_116 (fun I14 a14 H locs hp14 hM => ?_)
            obtain ⟨L14, P14, S14, n14, e14, hr14⟩ := hp14
            cases e14
            have c1 := tkF_cn hr14 c0
            replace c1 : cn (nzP P14) 225 = n14 := c1
            have m1 : n14 ≤ 225 := by rw [← c1]; exact cn_le _ _
            refine lv_aload_n hx hb d_Fl_spread_119 rfl (lv_at hl 3 rfl) ?_
            refine lv_iload_n hx hb d_Fl_spread_120 rfl (lv_at hl 1 rfl) ?_
            refine lv_iconst (v := 1) hx hb d_Fl_spread_121 (by decide) ?_
            refine lv_iadd hx hb d_Fl_spread_122 ?_
            refine topi_eq (iI_add ((↑(q % 15) : Int) + (-7)) 1) ?_
            refine lv_iload hx hb d_Fl_spread_123 (lv_at hl 0 rfl) ?_
            refine lv_iload_n hx hb d_Fl_spread_125 rfl (lv_at hl 2 rfl) ?_
            refine co_callv (np := 3) hC hK hM (k := 5) (by omega) (cE_5) rfl (c_Fl_take l D cT X I a (((↑(q % 15) : Int) + (-7)) + 1) ((↑(q / 15) : Int) + (-7)) (grN (L q) (PD q) 14) L14 P14 S14 lr n14 (sz + (cn (bt (grN (L q) (PD q) 14)) 16)) 1 (fun q9 hq9 hz9 => nz_lt c1 hq9 hz9) m1 (by omega) (by omega) (by omega) (by omega)) rfl ⟨wl_Fl_65, wi_Fl_take, ws_Fl_take, wc_Fl_take, wn_Fl⟩ ⟨by decide, by decide, by decide +kernel⟩ ⟨Nat.le_of_ble_eq_true rfl, Nat.le_of_ble_eq_true rfl⟩ hl.1 rfl (rest := []) rfl (Nat.le_of_ble_eq_true rfl) ⟨Nat.zero_le _, Nat.zero_le _⟩ d_Fl_spread_126 (fun I15 a15 H locs hp15 hM => ?_)
            obtain ⟨L15, P15, S15, n15, e15, hr15⟩ := hp15
            cases e15
            have c2 := tkF_cn hr15 c1
            replace c2 : cn (nzP P15) 225 = n15 := c2
            have m2 : n15 ≤ 225 := by rw [← c2]; exact cn_le _ _
            refine lv_aload_n hx hb d_Fl_spread_129 rfl (lv_at hl 3 rfl) ?_
            refine lv_iload_n hx hb d_Fl_spread_130 rfl (lv_at hl 1 rfl) ?_
            refine lv_iload hx hb d_Fl_spread_131 (lv_at hl 0 rfl) ?_
            refine lv_iconst (v := 1) hx hb d_Fl_spread_133 (by decide) ?_
            refine lv_isub hx hb d_Fl_spread_134 ?_
            refine topi_eq (iI_sub ((↑(q / 15) : Int) + (-7)) 1) ?_
            refine lv_iload_n hx hb d_Fl_spread_135 rfl (lv_at hl 2 rfl) ?_
            refine co_callv (np := 3) hC hK hM (k := 5) (by omega) (cE_5) rfl (c_Fl_take l D cT X I a ((↑(q % 15) : Int) + (-7)) (((↑(q / 15) : Int) + (-7)) - 1) (grN (L q) (PD q) 14) L15 P15 S15 lr n15 (sz + (cn (bt (grN (L q) (PD q) 14)) 16)) 1 (fun q9 hq9 hz9 => nz_lt c2 hq9 hz9) m2 (by omega) (by omega) (by omega) (by omega)) rfl ⟨wl_Fl_65, wi_Fl_take, ws_Fl_take, wc_Fl_take, wn_Fl⟩ ⟨by decide, by decide, by decide +kernel⟩ ⟨Nat.le_of_ble_eq_true rfl, Nat.le_of_ble_eq_true rfl⟩ hl.1 rfl (rest := []) rfl (Nat.le_of_ble_eq_true rfl) ⟨Nat.zero_le _, Nat.zero_le _⟩ d_Fl_spread_136 (fun I16 a16 H locs hp16 hM => ?_)
            obtain ⟨L16, P16, S16, n16, e16, hr16⟩ := hp16
            cases e16
            have c3 := tkF_cn hr16 c2
            replace c3 : cn (nzP P16) 225 = n16 := c3
            have m3 : n16 ≤ 225 := by rw [← c3]; exact cn_le _ _
            refine lv_aload_n hx hb d_Fl_spread_139 rfl (lv_at hl 3 rfl) ?_
            refine lv_iload_n hx hb d_Fl_spread_140 rfl (lv_at hl 1 rfl) ?_
            refine lv_iload hx hb d_Fl_spread_141 (lv_at hl 0 rfl) ?_
            refine lv_iconst (v := 1) hx hb d_Fl_spread_143 (by decide) ?_
            refine lv_iadd hx hb d_Fl_spread_144 ?_
            refine topi_eq (iI_add ((↑(q / 15) : Int) + (-7)) 1) ?_
            refine lv_iload_n hx hb d_Fl_spread_145 rfl (lv_at hl 2 rfl) ?_
            refine co_callv (np := 3) hC hK hM (k := 5) (by omega) (cE_5) rfl (c_Fl_take l D cT X I a ((↑(q % 15) : Int) + (-7)) (((↑(q / 15) : Int) + (-7)) + 1) (grN (L q) (PD q) 14) L16 P16 S16 lr n16 (sz + (cn (bt (grN (L q) (PD q) 14)) 16)) 1 (fun q9 hq9 hz9 => nz_lt c3 hq9 hz9) m3 (by omega) (by omega) (by omega) (by omega)) rfl ⟨wl_Fl_65, wi_Fl_take, ws_Fl_take, wc_Fl_take, wn_Fl⟩ ⟨by decide, by decide, by decide +kernel⟩ ⟨Nat.le_of_ble_eq_true rfl, Nat.le_of_ble_eq_true rfl⟩ hl.1 rfl (rest := []) rfl (Nat.le_of_ble_eq_true rfl) ⟨Nat.zero_le _, Nat.zero_le _⟩ d_Fl_spread_146 (fun I17 a17 H locs hp17 hM => ?_)
            obtain ⟨L17, P17, S17, n17, e17, hr17⟩ := hp17
            cases e17
            refine hret _ _ _ _ _ _ d_Fl_spread_149 hM ?_
            refine ⟨_, _, _, _, _, rfl, Or.inl ⟨rfl, by first | exact Or.inl (by assumption) | exact Or.inr (Or.inl (by assumption)) | exact Or.inr (Or.inr (Or.inl (by assumption))) | exact Or.inr (Or.inr (Or.inr (by assumption)))⟩, ?_⟩
            rw [hr17, hr16, hr15, hr14]
            rfl
          · skip
            refine lv_iload_n hx hb d_Fl_spread_94 rfl (lv_at hl 2 rfl) ?_
            refine lv_ldc (v := 32770) hx hb hC.2.2.2.1 (hC.2.2.2.2 _ wx_Fl_85) d_Fl_spread_95 ?_
            refine lv_iand hx hb d_Fl_spread_97 ?_
            refine lv_if_eq (tgt := 105) hx hb d_Fl_spread_98 (by decide) (fun h18 => ?_) (fun h18 => ?_)
            · skip
              refine lv_iconst (v := 0) hx hb d_Fl_spread_105 (by decide) ?_
              refine co_put hC in_Fl t_Fl t_Fl_ok n_Fl hK hM 5 (by omega) (cE_5) rfl 6 (by decide) wf_Fl_31 rfl rfl (ty := .boolean) (by decide +kernel) (x := 0) (vz_in (by first | exact Or.inl rfl | exact Or.inr rfl | exact bI_01 | assumption)).1 (vz_in (by first | exact Or.inl rfl | exact Or.inr rfl | exact bI_01 | assumption)).2 (Nat.le_of_ble_eq_true rfl) (by decide) (rfl) d_Fl_spread_106 (fun H locs hM => ?_)
              replace hM : CO D cT (CA X) X (upd (upd (upd (upd (upd I 51 (nI lr)) 54 (nI n)) 55 (nI (sz + (cn (bt (grN (L q) (PD q) 14)) 16)))) 56 en) 56 0) (va_up (va_up (va_up a 6 (upd L q ((L q) &&& ((grN (L q) (PD q) 14) ^^^ (-1))))) 7 (upd PD q 0)) 8 SK) s.heap H locs := hM
              rw [upd_upd] at hM
              have c0 : cn (nzP (upd PD q 0)) 225 = n := sp0_cn (s := (L, PD, SK, n)) hq hcn hz
              have m0 : n ≤ 225 := by rw [← c0]; exact cn_le _ _
              refine lv_aload_n hx hb d_Fl_spread_109 rfl (lv_at hl 3 rfl) ?_
              refine lv_iload_n hx hb d_Fl_spread_110 rfl (lv_at hl 1 rfl) ?_
              refine lv_iconst (v := 1) hx hb d_Fl_spread_111 (by decide) ?_
              refine lv_isub hx hb d_Fl_spread_112 ?_
              refine topi_eq (iI_sub ((↑(q % 15) : Int) + (-7)) 1) ?_
              refine lv_iload hx hb d_Fl_spread_113 (lv_at hl 0 rfl) ?_
              refine lv_iload_n hx hb d_Fl_spread_115 rfl (lv_at hl 2 rfl) ?_
              refine co_callv (np := 3) hC hK hM (k := 5) (by omega) (cE_5) rfl (c_Fl_take l D cT X I a (((↑(q % 15) : Int) + (-7)) - 1) ((↑(q / 15) : Int) + (-7)) (grN (L q) (PD q) 14) (upd L q ((L q) &&& ((grN (L q) (PD q) 14) ^^^ (-1)))) (upd PD q 0) SK lr n (sz + (cn (bt (grN (L q) (PD q) 14)) 16)) 0 (fun q9 hq9 hz9 => nz_lt c0 hq9 hz9) m0 (by omega) (by omega) (by omega) (by omega)) rfl ⟨wl_Fl_65, wi_Fl_take, ws_Fl_take, wc_Fl_take, wn_Fl⟩ ⟨by decide, by decide, by decide +kernel⟩ ⟨Nat.le_of_ble_eq_true rfl, Nat.le_of_ble_eq_true rfl⟩ hl.1 rfl (rest := []) rfl (Nat.le_of_ble_eq_true rfl) ⟨Nat.zero_le _, Nat.zero_le _⟩ d_Fl_spread_116 (fun I19 a19 H locs hp19 hM => ?_)
              obtain ⟨L19, P19, S19, n19, e19, hr19⟩ := hp19
              cases e19
              have c1 := tkF_cn hr19 c0
              replace c1 : cn (nzP P19) 225 = n19 := c1
              have m1 : n19 ≤ 225 := by rw [← c1]; exact cn_le _ _
              refine lv_aload_n hx hb d_Fl_spread_119 rfl (lv_at hl 3 rfl) ?_
              refine lv_iload_n hx hb d_Fl_spread_120 rfl (lv_at hl 1 rfl) ?_
              refine lv_iconst (v := 1) hx hb d_Fl_spread_121 (by decide) ?_
              refine lv_iadd hx hb d_Fl_spread_122 ?_
              refine topi_eq (iI_add ((↑(q % 15) : Int) + (-7)) 1) ?_
              refine lv_iload hx hb d_Fl_spread_123 (lv_at hl 0 rfl) ?_
              refine lv_iload_n hx hb d_Fl_spread_125 rfl (lv_at hl 2 rfl) ?_
              refine co_callv (np := 3) hC hK hM (k := 5) (by omega) (cE_5) rfl (c_Fl_take l D cT X I a (((↑(q % 15) : Int) + (-7)) + 1) ((↑(q / 15) : Int) + (-7)) (grN (L q) (PD q) 14) L19 P19 S19 lr n19 (sz + (cn (bt (grN (L q) (PD q) 14)) 16)) 0 (fun q9 hq9 hz9 => nz_lt c1 hq9 hz9) m1 (by omega) (by omega) (by omega) (by omega)) rfl ⟨wl_Fl_65, wi_Fl_take, ws_Fl_take, wc_Fl_take, wn_Fl⟩ ⟨by decide, by decide, by decide +kernel⟩ ⟨Nat.le_of_ble_eq_true rfl, Nat.le_of_ble_eq_true rfl⟩ hl.1 rfl (rest := []) rfl (Nat.le_of_ble_eq_true rfl) ⟨Nat.zero_le _, Nat.zero_le _⟩ d_Fl_spread_126 (fun I20 a20 H locs hp20 hM => ?_)
              obtain ⟨L20, P20, S20, n20, e20, hr20⟩ := hp20
              cases e20
              have c2 := tkF_cn hr20 c1
              replace c2 : cn (nzP P20) 225 = n20 := c2
              have m2 : n20 ≤ 225 := by rw [← c2]; exact cn_le _ _
              refine lv_aload_n hx hb d_Fl_spread_129 rfl (lv_at hl 3 rfl) ?_
              refine lv_iload_n hx hb d_Fl_spread_130 rfl (lv_at hl 1 rfl) ?_
              refine lv_iload hx hb d_Fl_spread_131 (lv_at hl 0 rfl) ?_
              refine lv_iconst (v := 1) hx hb d_Fl_spread_133 (by decide) ?_
              refine lv_isub hx hb d_Fl_spread_134 ?_
              refine topi_eq (iI_sub ((↑(q / 15) : Int) + (-7)) 1) ?_
              refine lv_iload_n hx hb d_Fl_spread_135 rfl (lv_at hl 2 rfl) ?_
              refine co_callv (np := 3) hC hK hM (k := 5) (by omega) (cE_5) rfl (c_Fl_take l D cT X I a ((↑(q % 15) : Int) + (-7)) (((↑(q / 15) : Int) + (-7)) - 1) (grN (L q) (PD q) 14) L20 P20 S20 lr n20 (sz + (cn (bt (grN (L q) (PD q) 14)) 16)) 0 (fun q9 hq9 hz9 => nz_lt c2 hq9 hz9) m2 (by omega) (by omega) (by omega) (by omega)) rfl ⟨wl_Fl_65, wi_Fl_take, ws_Fl_take, wc_Fl_take, wn_Fl⟩ ⟨by decide, by decide, by decide +kernel⟩ ⟨Nat.le_of_ble_eq_true rfl, Nat.le_of_ble_eq_true rfl⟩ hl.1 rfl (rest := []) rfl (Nat.le_of_ble_eq_true rfl) ⟨Nat.zero_le _, Nat.zero_le _⟩ d_Fl_spread_136 (fun I21 a21 H locs hp21 hM => ?_)
              obtain ⟨L21, P21, S21, n21, e21, hr21⟩ := hp21
              cases e21
              have c3 := tkF_cn hr21 c2
              replace c3 : cn (nzP P21) 225 = n21 := c3
              have m3 : n21 ≤ 225 := by rw [← c3]; exact cn_le _ _
              refine lv_aload_n hx hb d_Fl_spread_139 rfl (lv_at hl 3 rfl) ?_
              refine lv_iload_n hx hb d_Fl_spread_140 rfl (lv_at hl 1 rfl) ?_
              refine lv_iload hx hb d_Fl_spread_141 (lv_at hl 0 rfl) ?_
              refine lv_iconst (v := 1) hx hb d_Fl_spread_143 (by decide) ?_
              refine lv_iadd hx hb d_Fl_spread_144 ?_
              refine topi_eq (iI_add ((↑(q / 15) : Int) + (-7)) 1) ?_
              refine lv_iload_n hx hb d_Fl_spread_145 rfl (lv_at hl 2 rfl) ?_
              refine co_callv (np := 3) hC hK hM (k := 5) (by omega) (cE_5) rfl (c_Fl_take l D cT X I a ((↑(q % 15) : Int) + (-7)) (((↑(q / 15) : Int) + (-7)) + 1) (grN (L q) (PD q) 14) L21 P21 S21 lr n21 (sz + (cn (bt (grN (L q) (PD q) 14)) 16)) 0 (fun q9 hq9 hz9 => nz_lt c3 hq9 hz9) m3 (by omega) (by omega) (by omega) (by omega)) rfl ⟨wl_Fl_65, wi_Fl_take, ws_Fl_take, wc_Fl_take, wn_Fl⟩ ⟨by decide, by decide, by decide +kernel⟩ ⟨Nat.le_of_ble_eq_true rfl, Nat.le_of_ble_eq_true rfl⟩ hl.1 rfl (rest := []) rfl (Nat.le_of_ble_eq_true rfl) ⟨Nat.zero_le _, Nat.zero_le _⟩ d_Fl_spread_146 (fun I22 a22 H locs hp22 hM => ?_)
              obtain ⟨L22, P22, S22, n22, e22, hr22⟩ := hp22
              cases e22
              refine hret _ _ _ _ _ _ d_Fl_spread_149 hM ?_
              refine ⟨_, _, _, _, _, rfl, Or.inr ⟨rfl, fun z9 => by rcases z9 with z9 | z9 | z9 | z9 <;> first | exact absurd z9 (by assumption) | exact absurd (by assumption) z9⟩, ?_⟩
              rw [hr22, hr21, hr20, hr19]
              rfl
            · skip
              refine lv_iconst (v := 1) hx hb d_Fl_spread_101 (by decide) ?_
              refine lv_goto (tgt := 106) hx hb d_Fl_spread_102 (by decide) ?_
              refine co_put hC in_Fl t_Fl t_Fl_ok n_Fl hK hM 5 (by omega) (cE_5) rfl 6 (by decide) wf_Fl_31 rfl rfl (ty := .boolean) (by decide +kernel) (x := 1) (vz_in (by first | exact Or.inl rfl | exact Or.inr rfl | exact bI_01 | assumption)).1 (vz_in (by first | exact Or.inl rfl | exact Or.inr rfl | exact bI_01 | assumption)).2 (Nat.le_of_ble_eq_true rfl) (by decide) (rfl) d_Fl_spread_106 (fun H locs hM => ?_)
              replace hM : CO D cT (CA X) X (upd (upd (upd (upd (upd I 51 (nI lr)) 54 (nI n)) 55 (nI (sz + (cn (bt (grN (L q) (PD q) 14)) 16)))) 56 en) 56 1) (va_up (va_up (va_up a 6 (upd L q ((L q) &&& ((grN (L q) (PD q) 14) ^^^ (-1))))) 7 (upd PD q 0)) 8 SK) s.heap H locs := hM
              rw [upd_upd] at hM
              have c0 : cn (nzP (upd PD q 0)) 225 = n := sp0_cn (s := (L, PD, SK, n)) hq hcn hz
              have m0 : n ≤ 225 := by rw [← c0]; exact cn_le _ _
              refine lv_aload_n hx hb d_Fl_spread_109 rfl (lv_at hl 3 rfl) ?_
              refine lv_iload_n hx hb d_Fl_spread_110 rfl (lv_at hl 1 rfl) ?_
              refine lv_iconst (v := 1) hx hb d_Fl_spread_111 (by decide) ?_
              refine lv_isub hx hb d_Fl_spread_112 ?_
              refine topi_eq (iI_sub ((↑(q % 15) : Int) + (-7)) 1) ?_
              refine lv_iload hx hb d_Fl_spread_113 (lv_at hl 0 rfl) ?_
              refine lv_iload_n hx hb d_Fl_spread_115 rfl (lv_at hl 2 rfl) ?_
              refine co_callv (np := 3) hC hK hM (k := 5) (by omega) (cE_5) rfl (c_Fl_take l D cT X I a (((↑(q % 15) : Int) + (-7)) - 1) ((↑(q / 15) : Int) + (-7)) (grN (L q) (PD q) 14) (upd L q ((L q) &&& ((grN (L q) (PD q) 14) ^^^ (-1)))) (upd PD q 0) SK lr n (sz + (cn (bt (grN (L q) (PD q) 14)) 16)) 1 (fun q9 hq9 hz9 => nz_lt c0 hq9 hz9) m0 (by omega) (by omega) (by omega) (by omega)) rfl ⟨wl_Fl_65, wi_Fl_take, ws_Fl_take, wc_Fl_take, wn_Fl⟩ ⟨by decide, by decide, by decide +kernel⟩ ⟨Nat.le_of_ble_eq_true rfl, Nat.le_of_ble_eq_true rfl⟩ hl.1 rfl (rest := []) rfl (Nat.le_of_ble_eq_true rfl) ⟨Nat.zero_le _, Nat.zero_le _⟩ d_Fl_spread_116 (fun I23 a23 H locs hp23 hM => ?_)
              obtain ⟨L23, P23, S23, n23, e23, hr23⟩ := hp23
              cases e23
              have c1 := tkF_cn hr23 c0
              replace c1 : cn (nzP P23) 225 = n23 := c1
              have m1 : n23 ≤ 225 := by rw [← c1]; exact cn_le _ _
              refine lv_aload_n hx hb d_Fl_spread_119 rfl (lv_at hl 3 rfl) ?_
              refine lv_iload_n hx hb d_Fl_spread_120 rfl (lv_at hl 1 rfl) ?_
              refine lv_iconst (v := 1) hx hb d_Fl_spread_121 (by decide) ?_
              refine lv_iadd hx hb d_Fl_spread_122 ?_
              refine topi_eq (iI_add ((↑(q % 15) : Int) + (-7)) 1) ?_
              refine lv_iload hx hb d_Fl_spread_123 (lv_at hl 0 rfl) ?_
              refine lv_iload_n hx hb d_Fl_spread_125 rfl (lv_at hl 2 rfl) ?_
              refine co_callv (np := 3) hC hK hM (k := 5) (by omega) (cE_5) rfl (c_Fl_take l D cT X I a (((↑(q % 15) : Int) + (-7)) + 1) ((↑(q / 15) : Int) + (-7)) (grN (L q) (PD q) 14) L23 P23 S23 lr n23 (sz + (cn (bt (grN (L q) (PD q) 14)) 16)) 1 (fun q9 hq9 hz9 => nz_lt c1 hq9 hz9) m1 (by omega) (by omega) (by omega) (by omega)) rfl ⟨wl_Fl_65, wi_Fl_take, ws_Fl_take, wc_Fl_take, wn_Fl⟩ ⟨by decide, by decide, by decide +kernel⟩ ⟨Nat.le_of_ble_eq_true rfl, Nat.le_of_ble_eq_true rfl⟩ hl.1 rfl (rest := []) rfl (Nat.le_of_ble_eq_true rfl) ⟨Nat.zero_le _, Nat.zero_le _⟩ d_Fl_spread_126 (fun I24 a24 H locs hp24 hM => ?_)
              obtain ⟨L24, P24, S24, n24, e24, hr24⟩ := hp24
              cases e24
              have c2 := tkF_cn hr24 c1
              replace c2 : cn (nzP P24) 225 = n24 := c2
              have m2 : n24 ≤ 225 := by rw [← c2]; exact cn_le _ _
              refine lv_aload_n hx hb d_Fl_spread_129 rfl (lv_at hl 3 rfl) ?_
              refine lv_iload_n hx hb d_Fl_spread_130 rfl (lv_at hl 1 rfl) ?_
              refine lv_iload hx hb d_Fl_spread_131 (lv_at hl 0 rfl) ?_
              refine lv_iconst (v := 1) hx hb d_Fl_spread_133 (by decide) ?_
              refine lv_isub hx hb d_Fl_spread_134 ?_
              refine topi_eq (iI_sub ((↑(q / 15) : Int) + (-7)) 1) ?_
              refine lv_iload_n hx hb d_Fl_spread_135 rfl (lv_at hl 2 rfl) ?_
              refine co_callv (np := 3) hC hK hM (k := 5) (by omega) (cE_5) rfl (c_Fl_take l D cT X I a ((↑(q % 15) : Int) + (-7)) (((↑(q / 15) : Int) + (-7)) - 1) (grN (L q) (PD q) 14) L24 P24 S24 lr n24 (sz + (cn (bt (grN (L q) (PD q) 14)) 16)) 1 (fun q9 hq9 hz9 => nz_lt c2 hq9 hz9) m2 (by omega) (by omega) (by omega) (by omega)) rfl ⟨wl_Fl_65, wi_Fl_take, ws_Fl_take, wc_Fl_take, wn_Fl⟩ ⟨by decide, by decide, by decide +kernel⟩ ⟨Nat.le_of_ble_eq_true rfl, Nat.le_of_ble_eq_true rfl⟩ hl.1 rfl (rest := []) rfl (Nat.le_of_ble_eq_true rfl) ⟨Nat.zero_le _, Nat.zero_le _⟩ d_Fl_spread_136 (fun I25 a25 H locs hp25 hM => ?_)
              obtain ⟨L25, P25, S25, n25, e25, hr25⟩ := hp25
              cases e25
              have c3 := tkF_cn hr25 c2
              replace c3 : cn (nzP P25) 225 = n25 := c3
              have m3 : n25 ≤ 225 := by rw [← c3]; exact cn_le _ _
              refine lv_aload_n hx hb d_Fl_spread_139 rfl (lv_at hl 3 rfl) ?_
              refine lv_iload_n hx hb d_Fl_spread_140 rfl (lv_at hl 1 rfl) ?_
              refine lv_iload hx hb d_Fl_spread_141 (lv_at hl 0 rfl) ?_
              refine lv_iconst (v := 1) hx hb d_Fl_spread_143 (by decide) ?_
              refine lv_iadd hx hb d_Fl_spread_144 ?_
              refine topi_eq (iI_add ((↑(q / 15) : Int) + (-7)) 1) ?_
              refine lv_iload_n hx hb d_Fl_spread_145 rfl (lv_at hl 2 rfl) ?_
              refine co_callv (np := 3) hC hK hM (k := 5) (by omega) (cE_5) rfl (c_Fl_take l D cT X I a ((↑(q % 15) : Int) + (-7)) (((↑(q / 15) : Int) + (-7)) + 1) (grN (L q) (PD q) 14) L25 P25 S25 lr n25 (sz + (cn (bt (grN (L q) (PD q) 14)) 16)) 1 (fun q9 hq9 hz9 => nz_lt c3 hq9 hz9) m3 (by omega) (by omega) (by omega) (by omega)) rfl ⟨wl_Fl_65, wi_Fl_take, ws_Fl_take, wc_Fl_take, wn_Fl⟩ ⟨by decide, by decide, by decide +kernel⟩ ⟨Nat.le_of_ble_eq_true rfl, Nat.le_of_ble_eq_true rfl⟩ hl.1 rfl (rest := []) rfl (Nat.le_of_ble_eq_true rfl) ⟨Nat.zero_le _, Nat.zero_le _⟩ d_Fl_spread_146 (fun I26 a26 H locs hp26 hM => ?_)
              obtain ⟨L26, P26, S26, n26, e26, hr26⟩ := hp26
              cases e26
              refine hret _ _ _ _ _ _ d_Fl_spread_149 hM ?_
              refine ⟨_, _, _, _, _, rfl, Or.inl ⟨rfl, by first | exact Or.inl (by assumption) | exact Or.inr (Or.inl (by assumption)) | exact Or.inr (Or.inr (Or.inl (by assumption))) | exact Or.inr (Or.inr (Or.inr (by assumption)))⟩, ?_⟩
              rw [hr26, hr25, hr24, hr23]
              rfl
    · skip
      refine hret _ _ _ _ _ _ d_Fl_spread_11 hM ?_
      exfalso
      omega
