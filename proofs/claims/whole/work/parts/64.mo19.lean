/-! the reference: one text's own row -/
def TKg (I : Nat → Int32) (t : TT) : Prop := I 8 = 0 ∧ I 10 = nI t.2.2.1 ∧ I 11 = nI t.2.1 ∧ I 12 = nI t.1 ∧ (t.1 = 1 ∨ t.1 = 2 → I 13 = iI t.2.2.2)
def w3 (t : TT) : Nat := if t.1 = 3 then 1 else 0
theorem w3_4 (t : TT) : w3 t ≤ 4 := by unfold w3; split <;> omega
theorem w3_y {t : TT} (h : 0 < w3 t) : t.1 = 3 ∧ w3 t = 1 := by unfold w3 at *; split at h <;> simp_all
theorem w3_n {t : TT} (h : w3 t = 0) : ¬ t.1 = 3 := by unfold w3 at h; split at h <;> simp_all
theorem TKI_w {I : Nat → Int32} {t : TT} (h : TKI I t) : I 8 = nI (w3 t) := by
  unfold w3
  split
  · exact (h.2.1 (by assumption)).1
  · exact (h.2.2 (by assumption)).1
theorem TKI_g {I : Nat → Int32} {t : TT} (h : TKI I t) (h3 : ¬ t.1 = 3) : TKg I t := ⟨(h.2.2 h3).1, (h.2.2 h3).2.1, h.1, (h.2.2 h3).2.2.1, (h.2.2 h3).2.2.2⟩
def fw {α : Type} : FA ⊕ α → Nat
  | .inl f => f.1
  | .inr _ => 0
def fp {α : Type} : FA ⊕ α → Nat
  | .inl f => f.2
  | .inr _ => 0
def RW (a : Nat → Nat → Int32) (b : Nat) (s : PS) : Prop := a 1 b = nI s.many ∧ (∀ j, j < s.many → a 2 (64 * b + j) = nI (s.kd j)) ∧ (∀ j, 0 < j → j < s.many → a 3 (64 * b + j) = nI (s.ab j)) ∧ (∀ j, j < s.many → ∀ i, i < nOf (s.kd j) → a 4 (6 * (64 * b + j) + i) = iI (s.nb j i))
/-- what is kept of the rows while body b is told -/
def FR (a a' : Nat → Nat → Int32) (b : Nat) : Prop := (∀ k, ¬ (1 ≤ k ∧ k ≤ 4) → k ≠ 14 → k ≠ 15 → a' k = a k) ∧ (∀ j, j < b → a' 1 j = a 1 j) ∧ (∀ j, j < 64 * b → a' 2 j = a 2 j ∧ a' 3 j = a 3 j) ∧ (∀ j, j < 384 * b → a' 4 j = a 4 j)
theorem FR_rf (a : Nat → Nat → Int32) (b : Nat) : FR a a b := ⟨fun _ _ _ _ => rfl, fun _ _ => rfl, fun _ _ => ⟨rfl, rfl⟩, fun _ _ => rfl⟩
theorem FR_tr {a a' a'' : Nat → Nat → Int32} {b : Nat} (h : FR a a' b) (g : FR a' a'' b) : FR a a'' b := ⟨fun k h1 h2 h3 => (g.1 k h1 h2 h3).trans (h.1 k h1 h2 h3), fun j hj => (g.2.1 j hj).trans (h.2.1 j hj), fun j hj => ⟨(g.2.2.1 j hj).1.trans (h.2.2.1 j hj).1, (g.2.2.1 j hj).2.trans (h.2.2.1 j hj).2⟩, fun j hj => (g.2.2.2 j hj).trans (h.2.2.2 j hj)⟩
theorem nOf_eq {r : Nat} (h : r ≤ 9) : (if nI r = 0 ∨ nI r = 2 then 4 else if nI r = 1 then 6 else if nI r = 6 then 3 else if nI r = 9 then 1 else 0 : Int32) = nI (nOf r) := by
  rcases (show r = 0 ∨ r = 1 ∨ r = 2 ∨ r = 3 ∨ r = 4 ∨ r = 5 ∨ r = 6 ∨ r = 7 ∨ r = 8 ∨ r = 9 by omega) with rfl | rfl | rfl | rfl | rfl | rfl | rfl | rfl | rfl | rfl <;> decide
theorem nOf_6 (r : Nat) : nOf r ≤ 6 := by
  unfold nOf
  (repeat' split) <;> omega
theorem lowN_b {r i : Nat} {nb : Nat → Int} (h : ∀ j, -20 ≤ nb j ∧ nb j ≤ 20) : -20 ≤ lowN r i nb ∧ lowN r i nb ≤ 20 := by
  unfold lowN
  have := h (i - 3)
  (repeat' split) <;> omega
section OP
variable {tl : Nat} {tb : Nat → Nat}
theorem tok_b (h4 : tl ≤ 400) (htb : ∀ j, j < tl → tb j < 256) (p : Nat) : (tok tl tb p).1 ≤ 3 ∧ -10000 ≤ (tok tl tb p).2.2.2 ∧ (tok tl tb p).2.2.2 ≤ 10000 := by
  unfold tok tokA
  generalize skP tl tb p = q
  split
  · exact ⟨by show 0 ≤ 3; omega, by show -10000 ≤ (0 : Int); omega, by show (0 : Int) ≤ 10000; omega⟩
  · split
    · have h := nmK_le (fun i => ch tl tb (q + i)) (ltE tl tb q - q) 10
      have h2 : ltK tl tb q ≤ 10 := by
        rcases h with h | h
        · exact h.1
        · omega
      refine ⟨?_, ?_, ?_⟩
      · show (if ltK tl tb q < 10 then 1 else 3) ≤ 3
        split <;> omega
      · show -10000 ≤ (ltK tl tb q : Int)
        omega
      · show (ltK tl tb q : Int) ≤ 10000
        omega
    · split
      · have hv : -10000 ≤ nv (fun i => ch tl tb (fgB tl tb q + i)) (fgE tl tb (fgB tl tb q) - fgB tl tb q) ∧ nv (fun i => ch tl tb (fgB tl tb q + i)) (fgE tl tb (fgB tl tb q) - fgB tl tb q) ≤ 10000 := nv_b (fun i hi => by
          have hf : isFg (ch tl tb (fgB tl tb q + i)) = true := eR_all (f := fun k => isFg (ch tl tb k)) (k := fgB tl tb q) (by omega) (by
            have : i < fgE tl tb (fgB tl tb q) - fgB tl tb q := hi
            show _ < fgE tl tb (fgB tl tb q)
            omega)
          unfold isFg at hf
          rw [decide_eq_true_iff] at hf
          show ch tl tb (fgB tl tb q + i) < 256
          omega)
        refine ⟨?_, ?_, ?_⟩
        · show (if _ then 2 else 3) ≤ 3
          split <;> omega
        · show -10000 ≤ fgV tl tb q
          unfold fgV
          split <;> omega
        · show fgV tl tb q ≤ 10000
          unfold fgV
          split <;> omega
      · exact ⟨by show 3 ≤ 3; omega, by show -10000 ≤ (0 : Int); omega, by show (0 : Int) ≤ 10000; omega⟩
theorem numP_3 {r : Nat} {t : TT} {nb : Nat → Int} (h : t.1 = 3) : ∀ (m i : Nat), numP tl tb r m i t nb = .inl (1, t.2.1)
  | 0, i => by unfold numP; rw [if_pos h]
  | m + 1, i => by unfold numP; rw [if_pos h]
theorem numP_e {r i m : Nat} {t : TT} {nb : Nat → Int} (hm : m - i = 0) (h : ¬ t.1 = 3) : numP tl tb r (m - i) i t nb = .inr (t, nb) := by
  rw [hm]; unfold numP; rw [if_neg h]
theorem numP_2 {r i m : Nat} {t : TT} {nb : Nat → Int} (hm : i < m) (h : ¬ t.1 = 3) (h2 : ¬ t.1 = 2) : numP tl tb r (m - i) i t nb = .inl (2, t.2.1) := by
  rw [show m - i = (m - (i + 1)) + 1 by omega]; unfold numP; rw [if_neg h, if_pos h2]
theorem numP_4 {r i m : Nat} {t : TT} {nb : Nat → Int} (hm : i < m) (h2 : t.1 = 2) (h3 : ¬ (lowN r i nb ≤ t.2.2.2 ∧ t.2.2.2 ≤ 20)) : numP tl tb r (m - i) i t nb = .inl (3, t.2.1) := by
  rw [show m - i = (m - (i + 1)) + 1 by omega]; unfold numP; rw [if_neg (by omega), if_neg (fun z => z h2), if_pos h3]
theorem numP_s {r i m : Nat} {t : TT} {nb : Nat → Int} (hm : i < m) (h2 : t.1 = 2) (h3 : lowN r i nb ≤ t.2.2.2 ∧ t.2.2.2 ≤ 20) : numP tl tb r (m - i) i t nb = numP tl tb r (m - (i + 1)) (i + 1) (tok tl tb t.2.2.1) (fun j => if j = i then t.2.2.2 else nb j) := by
  rw [show m - i = (m - (i + 1)) + 1 by omega]
  show (if t.1 = 3 then _ else _) = _
  rw [if_neg (by omega), if_neg (fun z => z h2), if_neg (fun z => z h3)]
/-- what one() leaves -/
def oneQ (tl : Nat) (tb : Nat → Nat) (b ovn : Nat) (s0 : PS) (I : Nat → Int32) (a : Nat → Nat → Int32) (I' : Nat → Int32) (a' : Nat → Nat → Int32) : Prop := (∀ q, q < 8 ∨ 13 < q → I' q = I q) ∧ FR a a' b ∧ a' 14 = a 14 ∧ a' 15 = a 15 ∧ I' 8 = nI (fw (oneP tl tb ovn s0)) ∧ fw (oneP tl tb ovn s0) ≤ 4 ∧ (∀ f, oneP tl tb ovn s0 = .inl f → 0 < f.1 ∧ I' 9 = nI f.2) ∧ (∀ s1, oneP tl tb ovn s0 = .inr s1 → TKg I' s1.t ∧ RW a' b s1)
theorem one_no {b ovn : Nat} {s0 : PS} {I : Nat → Int32} {a : Nat → Nat → Int32} (h : ¬ s0.t.1 = 1) (hg : TKg I s0.t) : oneQ tl tb b ovn s0 I a (upd (upd I 8 2) 9 (I 11)) a := by
  have e := one_n (tl := tl) (tb := tb) (ov := ovn) h
  unfold oneQ
  rw [e]
  refine ⟨fun q hq => ?_, FR_rf a b, rfl, rfl, rfl, by show 2 ≤ 4; omega, fun f hf => ?_, fun s1 hs => (by cases hs)⟩
  · rw [pk_un (by omega), pk_un (by omega)]
  · cases hf
    exact ⟨by show 0 < 2; omega, hg.2.2.1⟩
theorem one_fin {b ovn r i wr pl : Nat} {s0 : PS} {t : TT} {nb : Nat → Int} {I I1 N1 : Nat → Int32} {a : Nat → Nat → Int32} {ov : Int32} (h1 : s0.t.1 = 1) (hr : rul s0 = r) (hR : RW a b s0) (hov : 0 < s0.many → ov = nI ovn) (hfr : ∀ q, q < 8 ∨ 13 < q → I1 q = I q) (hN0 : ∀ j, j < 6 * (64 * b + s0.many) → N1 j = a 4 j) (hwr : I1 8 = nI wr) (hw4 : wr ≤ 4)
    (hA : 0 < wr → numP tl tb r (nOf r) 0 (tok tl tb s0.t.2.2.1) (fun _ => 0) = .inl (wr, pl) ∧ I1 9 = nI pl)
    (hB : wr = 0 → numP tl tb r (nOf r) 0 (tok tl tb s0.t.2.2.1) (fun _ => 0) = numP tl tb r (nOf r - i) i t nb ∧ TKg I1 t ∧ TKo tl tb t ∧ (t.1 ≤ 2 ∧ -10000 ≤ t.2.2.2 ∧ t.2.2.2 ≤ 10000) ∧ (∀ j, -20 ≤ nb j ∧ nb j ≤ 20) ∧ ∀ j, j < i → N1 (6 * (64 * b + s0.many) + j) = iI (nb j)) (hi : i ≤ nOf r) (hx : 0 < wr ∨ ¬ i < nOf r) : oneQ tl tb b ovn s0 I a I1 (va_up (va_up (va_up (va_up a 2 (upd (a 2) (64 * b + s0.many) (nI r))) 3 (upd (a 3) (64 * b + s0.many) ov)) 4 N1) 1 (upd (a 1) b (nI (s0.many + 1)))) := by
  have hF : FR a (va_up (va_up (va_up (va_up a 2 (upd (a 2) (64 * b + s0.many) (nI r))) 3 (upd (a 3) (64 * b + s0.many) ov)) 4 N1) 1 (upd (a 1) b (nI (s0.many + 1)))) b := by
    refine ⟨fun k h1 _ _ => ?_, fun j hj => ?_, fun j hj => ⟨?_, ?_⟩, fun j hj => ?_⟩
    · rw [va_up_ne _ _ (by omega), va_up_ne _ _ (by omega), va_up_ne _ _ (by omega), va_up_ne _ _ (by omega)]
    · exact pk_un (by omega)
    · exact pk_un (by omega)
    · exact pk_un (by omega)
    · exact hN0 j (by omega)
  have ho : oneP tl tb ovn s0 = match numP tl tb r (nOf r) 0 (tok tl tb s0.t.2.2.1) (fun _ => 0) with
      | .inl f => .inl f
      | .inr q => .inr (putR s0 ovn q) := by
    unfold oneP
    rw [if_neg (fun z => z h1), hr]
    rfl
  by_cases c : wr = 0
  · obtain ⟨b1, b2, b3, b4, b5, b6⟩ := hB c
    rw [b1, numP_e (by omega) (by omega)] at ho
    unfold oneQ
    rw [ho]
    refine ⟨hfr, hF, rfl, rfl, by rw [hwr, c]; rfl, by show 0 ≤ 4; omega, fun f hf => (by cases hf), fun s1 hs => ?_⟩
    cases hs
    refine ⟨b2, ?_, fun j hj => ?_, fun j h0 hj => ?_, fun j hj q hq => ?_⟩
    · exact pk_us
    · have hj : j < s0.many + 1 := hj
      show upd (a 2) (64 * b + s0.many) (nI r) (64 * b + j) = nI (if j = s0.many then rul s0 else s0.kd j)
      by_cases z : j = s0.many
      · rw [if_pos z, z, pk_us, hr]
      · rw [if_neg z, pk_un (by omega)]
        exact hR.2.1 j (by omega)
    · have hj : j < s0.many + 1 := hj
      show upd (a 3) (64 * b + s0.many) ov (64 * b + j) = nI (if j = s0.many then ovn else s0.ab j)
      by_cases z : j = s0.many
      · rw [if_pos z, z, pk_us]; exact hov (by omega)
      · rw [if_neg z, pk_un (by omega)]
        exact hR.2.2.1 j h0 (by omega)
    · have hj : j < s0.many + 1 := hj
      show N1 (6 * (64 * b + j) + q) = iI ((if j = s0.many then nb else s0.nb j) q)
      have hq : q < nOf (if j = s0.many then rul s0 else s0.kd j) := hq
      by_cases z : j = s0.many
      · rw [if_pos z] at hq ⊢
        rw [z]
        rw [hr] at hq
        exact b6 q (by omega)
      · rw [if_neg z] at hq ⊢
        have := nOf_6 (s0.kd j)
        rw [hN0 _ (by omega)]
        exact hR.2.2.2 j (by omega) q hq
  · obtain ⟨a1, a2⟩ := hA (by omega)
    rw [a1] at ho
    unfold oneQ
    rw [ho]
    refine ⟨hfr, hF, rfl, rfl, hwr, hw4, fun f hf => ?_, fun s1 hs => (by cases hs)⟩
    cases hf
    exact ⟨by show 0 < wr; omega, a2⟩
end OP
set_option maxHeartbeats 2000000 in
set_option maxRecDepth 100000 in
theorem c_Mo_one (l : Launch) (D : va_G) (cT : Nat → ClassId) (ad : Nat → Nat) (I : Nat → Int32) (J : Nat → Int64) (a : Nat → Nat → Int32) (g : Nat → Nat → Int64) (ov : Int32) (b tl ovn : Nat) (tb : Nat → Nat) (s0 : PS) (hT : TP I a tl tb) (hb0 : I 0 = nI b) (hb8 : b < 8) (hR : RW a b s0) (hm : s0.many < 64) (hg : TKg I s0.t) (ht3 : s0.t.1 ≤ 3) (hto : TKo tl tb s0.t) (hov : 0 < s0.many → ov = nI ovn) : MMv l D cT ad y_Mo_one b_Mo_one 6 none 2 48 [.int ov] I J a g (fun u => u.2.1 = J ∧ u.2.2.2 = g ∧ oneQ tl tb b ovn s0 I a u.1 u.2.2.1) := by
  refine mo_entv (by decide) rfl (Nat.le_of_ble_eq_true rfl) ?_
  intro p e s m args below meth c Q hC hK hM hret ls hl
  have hx := hC.1
  have hb := hC.2.1
  replace hl : lv_has ls 6 [(0, .ref (ad 46)), (1, .int ov)] := hl
  have htb : ∀ j, j < tl → tb j < 256 := fun j hj => (hT.2.2 j hj).2
  have h160 := hT.2.1
  have hw0 := hg.1
  refine lv_aload_n hx hb d_Mo_one_0 rfl (lv_at hl 0 rfl) ?_
  refine mo_geti hC hK hM 12 wf_Mo_131 rfl rfl (by decide) (v := nI s0.t.1) (hg.2.2.2.1) d_Mo_one_1 ?_
  refine lv_iconst (v := 1) hx hb d_Mo_one_4 (by decide) ?_
  refine nc_eq hx hb s0.t.1 1 (by omega) (by omega) d_Mo_one_5 (tgt := 14) (by decide) (fun h1 => ?_) (fun h1 => ?_)
  · skip
    have hn1 : s0.t.1 = 1 := by omega
    obtain ⟨r, hr9, hrv⟩ : ∃ r : Nat, r ≤ 9 ∧ s0.t.2.2.2 = (r : Int) := (hto.2.2.1 hn1).2.2.2.2
    have hr13 : I 13 = nI r := by rw [hg.2.2.2.2 (Or.inl hn1), hrv]; rfl
    have hrul : rul s0 = r := by unfold rul; rw [hrv]; rfl
    have hno6 := nOf_6 r
    refine lv_bipush (v := 64) hx hb d_Mo_one_14 (by decide) ?_
    refine lv_aload_n hx hb d_Mo_one_16 rfl (lv_at hl 0 rfl) ?_
    refine mo_geti hC hK hM 0 wf_Mo_155 rfl rfl (by decide) (v := nI b) (hb0) d_Mo_one_17 ?_
    refine lv_imul hx hb d_Mo_one_20 ?_
    refine topi_eq (pk_mul 64 b) ?_
    refine lv_aload_n hx hb d_Mo_one_21 rfl (lv_at hl 0 rfl) ?_
    refine mo_getr hC hK hM 1 wf_Mo_7 rfl (by decide) (by decide) d_Mo_one_22 ?_
    refine lv_aload_n hx hb d_Mo_one_25 rfl (lv_at hl 0 rfl) ?_
    refine mo_geti hC hK hM 0 wf_Mo_155 rfl rfl (by decide) (v := nI b) (hb0) d_Mo_one_26 ?_
    refine mo_ialdN hC hK hM 1 b (by decide) rfl (n := 8) rfl (by decide) (i := nI b) (rfl) (by omega) (v := nI s0.many) (hR.1) d_Mo_one_29 ?_
    refine lv_iadd hx hb d_Mo_one_30 ?_
    refine topi_eq (nI_add (64 * b) s0.many) ?_
    refine lv_istore_n (lv' := [(2, .int (nI ((64 * b) + s0.many))), (0, .ref (ad 46)), (1, .int ov)]) hx hb d_Mo_one_31 rfl hl (by decide) rfl (fun ls hl => ?_)
    refine lv_aload_n hx hb d_Mo_one_32 rfl (lv_at hl 1 rfl) ?_
    refine mo_geti hC hK hM 13 wf_Mo_142 rfl rfl (by decide) (v := nI r) (hr13) d_Mo_one_33 ?_
    refine lv_istore_n (lv' := [(3, .int (nI r)), (2, .int (nI ((64 * b) + s0.many))), (0, .ref (ad 46)), (1, .int ov)]) hx hb d_Mo_one_36 rfl hl (by decide) rfl (fun ls hl => ?_)
    refine lv_aload_n hx hb d_Mo_one_37 rfl (lv_at hl 2 rfl) ?_
    refine mo_getr hC hK hM 2 wf_Mo_13 rfl (by decide) (by decide) d_Mo_one_38 ?_
    refine lv_iload_n hx hb d_Mo_one_41 rfl (lv_at hl 1 rfl) ?_
    refine lv_iload_n hx hb d_Mo_one_42 rfl (lv_at hl 0 rfl) ?_
    refine mo_iastN hC hK hM 2 ((64 * b) + s0.many) (by decide) rfl (n := 512) rfl (by decide) (i := nI ((64 * b) + s0.many)) (x := nI r) (rfl) (by omega) d_Mo_one_43 (fun H locs hM => ?_)
    refine lv_aload_n hx hb d_Mo_one_44 rfl (lv_at hl 2 rfl) ?_
    refine mo_getr hC hK hM 3 wf_Mo_16 rfl (by decide) (by decide) d_Mo_one_45 ?_
    refine lv_iload_n hx hb d_Mo_one_48 rfl (lv_at hl 1 rfl) ?_
    refine lv_iload_n hx hb d_Mo_one_49 rfl (lv_at hl 3 rfl) ?_
    refine mo_iastN hC hK hM 3 ((64 * b) + s0.many) (by decide) rfl (n := 512) rfl (by decide) (i := nI ((64 * b) + s0.many)) (x := ov) (rfl) (by omega) d_Mo_one_50 (fun H locs hM => ?_)
    replace hM : MO D cT ad I J (va_up (va_up a 2 (upd (a 2) ((64 * b) + s0.many) (nI r))) 3 (upd (a 3) ((64 * b) + s0.many) ov)) g s.heap H locs := hM
    refine lv_aload_n hx hb d_Mo_one_51 rfl (lv_at hl 2 rfl) ?_
    refine mo_callv (np := 0) hC hK hM (c_Mo_next l D cT ad I J (va_up (va_up a 2 (upd (a 2) ((64 * b) + s0.many) (nI r))) 3 (upd (a 3) ((64 * b) + s0.many) ov)) g  0 tl s0.t.2.2.1 tb (hT) (hw0) (by omega) (fun _ => ⟨hg.2.1, hto.2.1⟩)) rfl ⟨wl_Mo_158, wi_Mo_next, ws_Mo_next, wc_Mo_next, wn_Mo⟩ ⟨by decide, by decide, by decide +kernel⟩ ⟨Nat.le_of_ble_eq_true rfl, Nat.le_of_ble_eq_true rfl⟩ hl.1 rfl (rest := []) rfl (Nat.le_of_ble_eq_true rfl) ⟨Nat.zero_le _, Nat.zero_le _⟩ d_Mo_one_52 (fun I2 J2 a2 g2 H locs hp2 hM => ?_)
    obtain ⟨hq_p2, hp2⟩ := hp2
    cases hq_p2
    rw [if_neg (by decide)] at hp2
    refine lv_iconst (v := 0) hx hb d_Mo_one_55 (by decide) ?_
    refine lv_istore (lv' := [(4, .int 0), (3, .int (nI r)), (2, .int (nI ((64 * b) + s0.many))), (0, .ref (ad 46)), (1, .int ov)]) hx hb d_Mo_one_56 hl (by decide) rfl (fun ls hl => ?_)
    have hL58 : ∀ (nn : Nat) (i : Nat) (wr : Nat) (pl : Nat) (t : TT) (nb : Nat → Int) (I1 : Nat → Int32) (N1 : Nat → Int32) (H : Heap) (locs : List Loc) (ls : Array Slot), nOf r - i < nn → (∀ q, q < 8 ∨ 13 < q → I1 q = I q) → (∀ j, j < 6 * (64 * b + s0.many) → N1 j = a 4 j) → (i ≤ nOf r) → (I1 8 = nI wr) → (wr ≤ 4) → (0 < wr → numP tl tb r (nOf r) 0 (tok tl tb s0.t.2.2.1) (fun _ => 0) = .inl (wr, pl) ∧ I1 9 = nI pl) → (wr = 0 → numP tl tb r (nOf r) 0 (tok tl tb s0.t.2.2.1) (fun _ => 0) = numP tl tb r (nOf r - i) i t nb ∧ TKg I1 t ∧ TKo tl tb t ∧ (t.1 ≤ 2 ∧ -10000 ≤ t.2.2.2 ∧ t.2.2.2 ≤ 10000) ∧ (∀ j, -20 ≤ nb j ∧ nb j ≤ 20) ∧ ∀ j, j < i → N1 (6 * (64 * b + s0.many) + j) = iI (nb j)) → MO D cT ad I1 J (va_up (va_up (va_up a 2 (upd (a 2) ((64 * b) + s0.many) (nI r))) 3 (upd (a 3) ((64 * b) + s0.many) ov)) 4 N1) g s.heap H locs → lv_has ls 6 [(0, .ref (ad 46)), (2, .int (nI ((64 * b) + s0.many))), (3, .int (nI r)), (4, .int (nI i))] → W p l e (rmOf 2 48) s m args below meth c H locs 0 0 Q (F0 m 58 ls []) := by
      intro nn
      induction nn with
      | zero =>
        intro i wr pl t nb I1 N1 H locs ls hmeas58 hfr hN0 hi hwr hw4 hA hB hM hl
        exact absurd hmeas58 (Nat.not_lt_zero _)
      | succ nn ih58 =>
        intro i wr pl t nb I1 N1 H locs ls hmeas58 hfr hN0 hi hwr hw4 hA hB hM hl
        refine lv_iload hx hb d_Mo_one_58 (lv_at hl 3 rfl) ?_
        refine lv_iload_n hx hb d_Mo_one_60 rfl (lv_at hl 2 rfl) ?_
        refine st_calli (np := 1) hC (c_Mo_numbersOf l (nI r)) ⟨wl_Mo_161, wt_Mo_numbersOf, wc_Mo_numbersOf, wn_Mo⟩ ⟨by decide, by decide, by decide +kernel⟩ ⟨Nat.le_of_ble_eq_true rfl, Nat.le_of_ble_eq_true rfl⟩ hl.1 rfl (rest := [.int (nI i)]) rfl (Nat.le_of_ble_eq_true rfl) ⟨Nat.zero_le _, Nat.zero_le _⟩ d_Mo_one_61 (fun rr hrr => ?_)
        replace hrr : rr = nI (nOf r) := hrr.trans (nOf_eq hr9)
        subst hrr
        refine nc_ge hx hb i (nOf r) (by omega) (by omega) d_Mo_one_64 (tgt := 194) (by decide) (fun h3 => ?_) (fun h3 => ?_)
        · skip
          refine lv_aload_n hx hb d_Mo_one_194 rfl (lv_at hl 0 rfl) ?_
          refine mo_getr hC hK hM 1 wf_Mo_7 rfl (by decide) (by decide) d_Mo_one_195 ?_
          refine lv_aload_n hx hb d_Mo_one_198 rfl (lv_at hl 0 rfl) ?_
          refine mo_geti hC hK hM 0 wf_Mo_155 rfl rfl (by decide) (v := nI b) ((hfr 0 (by omega)).trans hb0) d_Mo_one_199 ?_
          refine lv_dup2_11 hx hb d_Mo_one_202 rfl rfl ?_
          refine mo_ialdN hC hK hM 1 b (by decide) rfl (n := 8) rfl (by decide) (i := nI b) (rfl) (by omega) (v := nI s0.many) (hR.1) d_Mo_one_203 ?_
          refine lv_iconst (v := 1) hx hb d_Mo_one_204 (by decide) ?_
          refine lv_iadd hx hb d_Mo_one_205 ?_
          refine topi_eq (nI_add s0.many 1) ?_
          refine mo_iastN hC hK hM 1 b (by decide) rfl (n := 8) rfl (by decide) (i := nI b) (x := nI (s0.many + 1)) (rfl) (by omega) d_Mo_one_206 (fun H locs hM => ?_)
          replace hM : MO D cT ad I1 J (va_up (va_up (va_up (va_up a 2 (upd (a 2) ((64 * b) + s0.many) (nI r))) 3 (upd (a 3) ((64 * b) + s0.many) ov)) 4 N1) 1 (upd (a 1) b (nI (s0.many + 1)))) g s.heap H locs := hM
          exact hret _ _ _ _ _ _ _ _ d_Mo_one_207 hM (⟨rfl, rfl, one_fin (i := i) (wr := wr) (pl := pl) (t := t) (nb := nb) hn1 hrul hR hov hfr hN0 hwr hw4 hA hB hi (by omega)⟩)
        · skip
          refine lv_aload_n hx hb d_Mo_one_67 rfl (lv_at hl 0 rfl) ?_
          refine mo_geti hC hK hM 8 wf_Mo_95 rfl rfl (by decide) (v := nI wr) (hwr) d_Mo_one_68 ?_
          refine nz_ne hx hb wr (by omega) d_Mo_one_71 (tgt := 194) (by decide) (fun h4 => ?_) (fun h4 => ?_)
          · skip
            refine lv_aload_n hx hb d_Mo_one_194 rfl (lv_at hl 0 rfl) ?_
            refine mo_getr hC hK hM 1 wf_Mo_7 rfl (by decide) (by decide) d_Mo_one_195 ?_
            refine lv_aload_n hx hb d_Mo_one_198 rfl (lv_at hl 0 rfl) ?_
            refine mo_geti hC hK hM 0 wf_Mo_155 rfl rfl (by decide) (v := nI b) ((hfr 0 (by omega)).trans hb0) d_Mo_one_199 ?_
            refine lv_dup2_11 hx hb d_Mo_one_202 rfl rfl ?_
            refine mo_ialdN hC hK hM 1 b (by decide) rfl (n := 8) rfl (by decide) (i := nI b) (rfl) (by omega) (v := nI s0.many) (hR.1) d_Mo_one_203 ?_
            refine lv_iconst (v := 1) hx hb d_Mo_one_204 (by decide) ?_
            refine lv_iadd hx hb d_Mo_one_205 ?_
            refine topi_eq (nI_add s0.many 1) ?_
            refine mo_iastN hC hK hM 1 b (by decide) rfl (n := 8) rfl (by decide) (i := nI b) (x := nI (s0.many + 1)) (rfl) (by omega) d_Mo_one_206 (fun H locs hM => ?_)
            replace hM : MO D cT ad I1 J (va_up (va_up (va_up (va_up a 2 (upd (a 2) ((64 * b) + s0.many) (nI r))) 3 (upd (a 3) ((64 * b) + s0.many) ov)) 4 N1) 1 (upd (a 1) b (nI (s0.many + 1)))) g s.heap H locs := hM
            exact hret _ _ _ _ _ _ _ _ d_Mo_one_207 hM (⟨rfl, rfl, one_fin (i := i) (wr := wr) (pl := pl) (t := t) (nb := nb) hn1 hrul hR hov hfr hN0 hwr hw4 hA hB hi (by omega)⟩)
          · skip
            obtain ⟨hB1, hB2, hB3, hB4, hB5, hB6⟩ := hB (by omega)
            have hw0 := hB2.1
            refine lv_iload_n hx hb d_Mo_one_74 rfl (lv_at hl 2 rfl) ?_
            have hJ5 : ∀ (H : Heap) (locs : List Loc) (ls : Array Slot), MO D cT ad I1 J (va_up (va_up (va_up a 2 (upd (a 2) ((64 * b) + s0.many) (nI r))) 3 (upd (a 3) ((64 * b) + s0.many) ov)) 4 N1) g s.heap H locs → lv_has ls 6 [(0, .ref (ad 46)), (2, .int (nI ((64 * b) + s0.many))), (3, .int (nI r)), (4, .int (nI i))] → W p l e (rmOf 2 48) s m args below meth c H locs 0 0 Q (F0 m 128 ls [.int (iI (if r = 0 then if i = 3 then 0 else if r = 9 then 1 else if r = 1 then if 2 < i then nb (i - 3) else (-20) else (-20) else if r = 9 then 1 else if r = 1 then if 2 < i then nb (i - 3) else (-20) else (-20)))]) := ?_
            · skip
              refine nz_ne hx hb r (by omega) d_Mo_one_75 (tgt := 88) (by decide) (fun h6 => ?_) (fun h6 => ?_)
              · skip
                refine lv_iload_n hx hb d_Mo_one_88 rfl (lv_at hl 2 rfl) ?_
                refine lv_bipush (v := 9) hx hb d_Mo_one_89 (by decide) ?_
                refine nc_ne hx hb r 9 (by omega) (by omega) d_Mo_one_91 (tgt := 98) (by decide) (fun h7 => ?_) (fun h7 => ?_)
                · skip
                  refine lv_iload_n hx hb d_Mo_one_98 rfl (lv_at hl 2 rfl) ?_
                  refine lv_iconst (v := 1) hx hb d_Mo_one_99 (by decide) ?_
                  refine nc_ne hx hb r 1 (by omega) (by omega) d_Mo_one_100 (tgt := 126) (by decide) (fun h8 => ?_) (fun h8 => ?_)
                  · skip
                    refine lv_bipush (v := (-20)) hx hb d_Mo_one_126 (by decide) ?_
                    refine topi_eq (show ((-20) : Int32) = iI (if r = 0 then if i = 3 then 0 else if r = 9 then 1 else if r = 1 then if 2 < i then nb (i - 3) else (-20) else (-20) else if r = 9 then 1 else if r = 1 then if 2 < i then nb (i - 3) else (-20) else (-20)) by first | rfl | exact (bI_t (by assumption)).symm | exact (bI_f (by assumption)).symm | exact (bI_f (fun z => z (by assumption))).symm | (rw [if_neg h6, if_neg h7, if_neg h8]; done) | (rw [if_neg h6, if_neg h7, if_neg h8]; rfl) | (simp only [if_neg h6, if_neg h7, if_neg h8]; done) | (simp only [if_neg h6, if_neg h7, if_neg h8]; rfl)) ?_
                    exact hJ5 _ _ _ (by first | exact hM | (simp only [if_neg h6, if_neg h7, if_neg h8]; exact hM)) (by first | exact lv_sub hl [0, 1, 2, 3] rfl | (simp only [if_neg h6, if_neg h7, if_neg h8]; exact lv_sub hl [0, 1, 2, 3] rfl))
                  · skip
                    refine lv_iload hx hb d_Mo_one_103 (lv_at hl 3 rfl) ?_
                    refine lv_iconst (v := 2) hx hb d_Mo_one_105 (by decide) ?_
                    refine nc_le hx hb i 2 (by omega) (by omega) d_Mo_one_106 (tgt := 126) (by decide) (fun h9 => ?_) (fun h9 => ?_)
                    · skip
                      refine lv_bipush (v := (-20)) hx hb d_Mo_one_126 (by decide) ?_
                      refine topi_eq (show ((-20) : Int32) = iI (if r = 0 then if i = 3 then 0 else if r = 9 then 1 else if r = 1 then if 2 < i then nb (i - 3) else (-20) else (-20) else if r = 9 then 1 else if r = 1 then if 2 < i then nb (i - 3) else (-20) else (-20)) by first | rfl | exact (bI_t (by assumption)).symm | exact (bI_f (by assumption)).symm | exact (bI_f (fun z => z (by assumption))).symm | (rw [if_neg h6, if_neg h7, if_pos h8, if_neg h9]; done) | (rw [if_neg h6, if_neg h7, if_pos h8, if_neg h9]; rfl) | (simp only [if_neg h6, if_neg h7, if_pos h8, if_neg h9]; done) | (simp only [if_neg h6, if_neg h7, if_pos h8, if_neg h9]; rfl)) ?_
                      exact hJ5 _ _ _ (by first | exact hM | (simp only [if_neg h6, if_neg h7, if_pos h8, if_neg h9]; exact hM)) (by first | exact lv_sub hl [0, 1, 2, 3] rfl | (simp only [if_neg h6, if_neg h7, if_pos h8, if_neg h9]; exact lv_sub hl [0, 1, 2, 3] rfl))
                    · skip
                      refine lv_aload_n hx hb d_Mo_one_109 rfl (lv_at hl 0 rfl) ?_
                      refine mo_getr hC hK hM 4 wf_Mo_19 rfl (by decide) (by decide) d_Mo_one_110 ?_
                      refine lv_bipush (v := 6) hx hb d_Mo_one_113 (by decide) ?_
                      refine lv_iload_n hx hb d_Mo_one_115 rfl (lv_at hl 1 rfl) ?_
                      refine lv_imul hx hb d_Mo_one_116 ?_
                      refine topi_eq (pk_mul 6 ((64 * b) + s0.many)) ?_
                      refine lv_iload hx hb d_Mo_one_117 (lv_at hl 3 rfl) ?_
                      refine lv_iadd hx hb d_Mo_one_119 ?_
                      refine topi_eq (nI_add (6 * ((64 * b) + s0.many)) i) ?_
                      refine lv_iconst (v := 3) hx hb d_Mo_one_120 (by decide) ?_
                      refine lv_isub hx hb d_Mo_one_121 ?_
                      refine topi_eq (iI_sub (↑((6 * ((64 * b) + s0.many)) + i) : Int) 3) ?_
                      refine mo_ialdN hC hK hM 4 (6 * ((64 * b) + s0.many) + (i - 3)) (by decide) rfl (n := 3072) rfl (by decide) (i := iI ((↑((6 * ((64 * b) + s0.many)) + i) : Int) - 3)) (by rw [nI_iI]; congr 1; omega) (by omega) (v := iI (nb (i - 3))) (hB6 (i - 3) (by omega)) d_Mo_one_122 ?_
                      refine lv_goto (tgt := 128) hx hb d_Mo_one_123 (by decide) ?_
                      refine topi_eq (show (iI (nb (i - 3)) : Int32) = iI (if r = 0 then if i = 3 then 0 else if r = 9 then 1 else if r = 1 then if 2 < i then nb (i - 3) else (-20) else (-20) else if r = 9 then 1 else if r = 1 then if 2 < i then nb (i - 3) else (-20) else (-20)) by first | rfl | exact (bI_t (by assumption)).symm | exact (bI_f (by assumption)).symm | exact (bI_f (fun z => z (by assumption))).symm | (rw [if_neg h6, if_neg h7, if_pos h8, if_pos h9]; done) | (rw [if_neg h6, if_neg h7, if_pos h8, if_pos h9]; rfl) | (simp only [if_neg h6, if_neg h7, if_pos h8, if_pos h9]; done) | (simp only [if_neg h6, if_neg h7, if_pos h8, if_pos h9]; rfl)) ?_
                      exact hJ5 _ _ _ (by first | exact hM | (simp only [if_neg h6, if_neg h7, if_pos h8, if_pos h9]; exact hM)) (by first | exact lv_sub hl [0, 1, 2, 3] rfl | (simp only [if_neg h6, if_neg h7, if_pos h8, if_pos h9]; exact lv_sub hl [0, 1, 2, 3] rfl))
                · skip
                  refine lv_iconst (v := 1) hx hb d_Mo_one_94 (by decide) ?_
                  refine lv_goto (tgt := 128) hx hb d_Mo_one_95 (by decide) ?_
                  refine topi_eq (show (1 : Int32) = iI (if r = 0 then if i = 3 then 0 else if r = 9 then 1 else if r = 1 then if 2 < i then nb (i - 3) else (-20) else (-20) else if r = 9 then 1 else if r = 1 then if 2 < i then nb (i - 3) else (-20) else (-20)) by first | rfl | exact (bI_t (by assumption)).symm | exact (bI_f (by assumption)).symm | exact (bI_f (fun z => z (by assumption))).symm | (rw [if_neg h6, if_pos h7]; done) | (rw [if_neg h6, if_pos h7]; rfl) | (simp only [if_neg h6, if_pos h7]; done) | (simp only [if_neg h6, if_pos h7]; rfl)) ?_
                  exact hJ5 _ _ _ (by first | exact hM | (simp only [if_neg h6, if_pos h7]; exact hM)) (by first | exact lv_sub hl [0, 1, 2, 3] rfl | (simp only [if_neg h6, if_pos h7]; exact lv_sub hl [0, 1, 2, 3] rfl))
              · skip
                refine lv_iload hx hb d_Mo_one_78 (lv_at hl 3 rfl) ?_
                refine lv_iconst (v := 3) hx hb d_Mo_one_80 (by decide) ?_
                refine nc_ne hx hb i 3 (by omega) (by omega) d_Mo_one_81 (tgt := 88) (by decide) (fun h10 => ?_) (fun h10 => ?_)
                · skip
                  refine lv_iload_n hx hb d_Mo_one_88 rfl (lv_at hl 2 rfl) ?_
                  refine lv_bipush (v := 9) hx hb d_Mo_one_89 (by decide) ?_
                  refine nc_ne hx hb r 9 (by omega) (by omega) d_Mo_one_91 (tgt := 98) (by decide) (fun h11 => ?_) (fun h11 => ?_)
                  · skip
                    refine lv_iload_n hx hb d_Mo_one_98 rfl (lv_at hl 2 rfl) ?_
                    refine lv_iconst (v := 1) hx hb d_Mo_one_99 (by decide) ?_
                    refine nc_ne hx hb r 1 (by omega) (by omega) d_Mo_one_100 (tgt := 126) (by decide) (fun h12 => ?_) (fun h12 => ?_)
                    · skip
                      refine lv_bipush (v := (-20)) hx hb d_Mo_one_126 (by decide) ?_
                      refine topi_eq (show ((-20) : Int32) = iI (if r = 0 then if i = 3 then 0 else if r = 9 then 1 else if r = 1 then if 2 < i then nb (i - 3) else (-20) else (-20) else if r = 9 then 1 else if r = 1 then if 2 < i then nb (i - 3) else (-20) else (-20)) by first | rfl | exact (bI_t (by assumption)).symm | exact (bI_f (by assumption)).symm | exact (bI_f (fun z => z (by assumption))).symm | (rw [if_pos h6, if_neg h10, if_neg h11, if_neg h12]; done) | (rw [if_pos h6, if_neg h10, if_neg h11, if_neg h12]; rfl) | (simp only [if_pos h6, if_neg h10, if_neg h11, if_neg h12]; done) | (simp only [if_pos h6, if_neg h10, if_neg h11, if_neg h12]; rfl)) ?_
                      exact hJ5 _ _ _ (by first | exact hM | (simp only [if_pos h6, if_neg h10, if_neg h11, if_neg h12]; exact hM)) (by first | exact lv_sub hl [0, 1, 2, 3] rfl | (simp only [if_pos h6, if_neg h10, if_neg h11, if_neg h12]; exact lv_sub hl [0, 1, 2, 3] rfl))
                    · skip
                      refine lv_iload hx hb d_Mo_one_103 (lv_at hl 3 rfl) ?_
                      refine lv_iconst (v := 2) hx hb d_Mo_one_105 (by decide) ?_
                      refine nc_le hx hb i 2 (by omega) (by omega) d_Mo_one_106 (tgt := 126) (by decide) (fun h13 => ?_) (fun h13 => ?_)
                      · skip
                        refine lv_bipush (v := (-20)) hx hb d_Mo_one_126 (by decide) ?_
                        refine topi_eq (show ((-20) : Int32) = iI (if r = 0 then if i = 3 then 0 else if r = 9 then 1 else if r = 1 then if 2 < i then nb (i - 3) else (-20) else (-20) else if r = 9 then 1 else if r = 1 then if 2 < i then nb (i - 3) else (-20) else (-20)) by first | rfl | exact (bI_t (by assumption)).symm | exact (bI_f (by assumption)).symm | exact (bI_f (fun z => z (by assumption))).symm | (rw [if_pos h6, if_neg h10, if_neg h11, if_pos h12, if_neg h13]; done) | (rw [if_pos h6, if_neg h10, if_neg h11, if_pos h12, if_neg h13]; rfl) | (simp only [if_pos h6, if_neg h10, if_neg h11, if_pos h12, if_neg h13]; done) | (simp only [if_pos h6, if_neg h10, if_neg h11, if_pos h12, if_neg h13]; rfl)) ?_
                        exact hJ5 _ _ _ (by first | exact hM | (simp only [if_pos h6, if_neg h10, if_neg h11, if_pos h12, if_neg h13]; exact hM)) (by first | exact lv_sub hl [0, 1, 2, 3] rfl | (simp only [if_pos h6, if_neg h10, if_neg h11, if_pos h12, if_neg h13]; exact lv_sub hl [0, 1, 2, 3] rfl))
                      · skip
                        refine lv_aload_n hx hb d_Mo_one_109 rfl (lv_at hl 0 rfl) ?_
                        refine mo_getr hC hK hM 4 wf_Mo_19 rfl (by decide) (by decide) d_Mo_one_110 ?_
                        refine lv_bipush (v := 6) hx hb d_Mo_one_113 (by decide) ?_
                        refine lv_iload_n hx hb d_Mo_one_115 rfl (lv_at hl 1 rfl) ?_
                        refine lv_imul hx hb d_Mo_one_116 ?_
                        refine topi_eq (pk_mul 6 ((64 * b) + s0.many)) ?_
                        refine lv_iload hx hb d_Mo_one_117 (lv_at hl 3 rfl) ?_
                        refine lv_iadd hx hb d_Mo_one_119 ?_
                        refine topi_eq (nI_add (6 * ((64 * b) + s0.many)) i) ?_
                        refine lv_iconst (v := 3) hx hb d_Mo_one_120 (by decide) ?_
                        refine lv_isub hx hb d_Mo_one_121 ?_
                        refine topi_eq (iI_sub (↑((6 * ((64 * b) + s0.many)) + i) : Int) 3) ?_
                        refine mo_ialdN hC hK hM 4 (6 * ((64 * b) + s0.many) + (i - 3)) (by decide) rfl (n := 3072) rfl (by decide) (i := iI ((↑((6 * ((64 * b) + s0.many)) + i) : Int) - 3)) (by rw [nI_iI]; congr 1; omega) (by omega) (v := iI (nb (i - 3))) (hB6 (i - 3) (by omega)) d_Mo_one_122 ?_
                        refine lv_goto (tgt := 128) hx hb d_Mo_one_123 (by decide) ?_
                        refine topi_eq (show (iI (nb (i - 3)) : Int32) = iI (if r = 0 then if i = 3 then 0 else if r = 9 then 1 else if r = 1 then if 2 < i then nb (i - 3) else (-20) else (-20) else if r = 9 then 1 else if r = 1 then if 2 < i then nb (i - 3) else (-20) else (-20)) by first | rfl | exact (bI_t (by assumption)).symm | exact (bI_f (by assumption)).symm | exact (bI_f (fun z => z (by assumption))).symm | (rw [if_pos h6, if_neg h10, if_neg h11, if_pos h12, if_pos h13]; done) | (rw [if_pos h6, if_neg h10, if_neg h11, if_pos h12, if_pos h13]; rfl) | (simp only [if_pos h6, if_neg h10, if_neg h11, if_pos h12, if_pos h13]; done) | (simp only [if_pos h6, if_neg h10, if_neg h11, if_pos h12, if_pos h13]; rfl)) ?_
                        exact hJ5 _ _ _ (by first | exact hM | (simp only [if_pos h6, if_neg h10, if_neg h11, if_pos h12, if_pos h13]; exact hM)) (by first | exact lv_sub hl [0, 1, 2, 3] rfl | (simp only [if_pos h6, if_neg h10, if_neg h11, if_pos h12, if_pos h13]; exact lv_sub hl [0, 1, 2, 3] rfl))
                  · skip
                    refine lv_iconst (v := 1) hx hb d_Mo_one_94 (by decide) ?_
                    refine lv_goto (tgt := 128) hx hb d_Mo_one_95 (by decide) ?_
                    refine topi_eq (show (1 : Int32) = iI (if r = 0 then if i = 3 then 0 else if r = 9 then 1 else if r = 1 then if 2 < i then nb (i - 3) else (-20) else (-20) else if r = 9 then 1 else if r = 1 then if 2 < i then nb (i - 3) else (-20) else (-20)) by first | rfl | exact (bI_t (by assumption)).symm | exact (bI_f (by assumption)).symm | exact (bI_f (fun z => z (by assumption))).symm | (rw [if_pos h6, if_neg h10, if_pos h11]; done) | (rw [if_pos h6, if_neg h10, if_pos h11]; rfl) | (simp only [if_pos h6, if_neg h10, if_pos h11]; done) | (simp only [if_pos h6, if_neg h10, if_pos h11]; rfl)) ?_
                    exact hJ5 _ _ _ (by first | exact hM | (simp only [if_pos h6, if_neg h10, if_pos h11]; exact hM)) (by first | exact lv_sub hl [0, 1, 2, 3] rfl | (simp only [if_pos h6, if_neg h10, if_pos h11]; exact lv_sub hl [0, 1, 2, 3] rfl))
                · skip
                  refine lv_iconst (v := 0) hx hb d_Mo_one_84 (by decide) ?_
                  refine lv_goto (tgt := 128) hx hb d_Mo_one_85 (by decide) ?_
                  refine topi_eq (show (0 : Int32) = iI (if r = 0 then if i = 3 then 0 else if r = 9 then 1 else if r = 1 then if 2 < i then nb (i - 3) else (-20) else (-20) else if r = 9 then 1 else if r = 1 then if 2 < i then nb (i - 3) else (-20) else (-20)) by first | rfl | exact (bI_t (by assumption)).symm | exact (bI_f (by assumption)).symm | exact (bI_f (fun z => z (by assumption))).symm | (rw [if_pos h6, if_pos h10]; done) | (rw [if_pos h6, if_pos h10]; rfl) | (simp only [if_pos h6, if_pos h10]; done) | (simp only [if_pos h6, if_pos h10]; rfl)) ?_
                  exact hJ5 _ _ _ (by first | exact hM | (simp only [if_pos h6, if_pos h10]; exact hM)) (by first | exact lv_sub hl [0, 1, 2, 3] rfl | (simp only [if_pos h6, if_pos h10]; exact lv_sub hl [0, 1, 2, 3] rfl))
            intro H locs ls hM hl
            refine topi_eq (show iI (if r = 0 then if i = 3 then 0 else if r = 9 then 1 else if r = 1 then if 2 < i then nb (i - 3) else (-20) else (-20) else if r = 9 then 1 else if r = 1 then if 2 < i then nb (i - 3) else (-20) else (-20)) = iI (lowN r i nb) by congr 1; unfold lowN; (repeat' split) <;> first | rfl | omega) ?_
            have hlo := lowN_b (r := r) (i := i) hB5
            refine lv_istore (lv' := [(5, .int (iI (lowN r i nb))), (0, .ref (ad 46)), (2, .int (nI ((64 * b) + s0.many))), (3, .int (nI r)), (4, .int (nI i))]) hx hb d_Mo_one_128 hl (by decide) rfl (fun ls hl => ?_)
            refine lv_aload_n hx hb d_Mo_one_130 rfl (lv_at hl 1 rfl) ?_
            refine mo_geti hC hK hM 12 wf_Mo_131 rfl rfl (by decide) (v := nI t.1) (hB2.2.2.2.1) d_Mo_one_131 ?_
            refine lv_iconst (v := 2) hx hb d_Mo_one_134 (by decide) ?_
            refine nc_eq hx hb t.1 2 (by omega) (by omega) d_Mo_one_135 (tgt := 146) (by decide) (fun h14 => ?_) (fun h14 => ?_)
            · skip
              refine lv_aload_n hx hb d_Mo_one_146 rfl (lv_at hl 1 rfl) ?_
              refine mo_geti hC hK hM 13 wf_Mo_142 rfl rfl (by decide) (v := iI t.2.2.2) (hB2.2.2.2.2 (Or.inr (by omega))) d_Mo_one_147 ?_
              refine lv_i2l (v := iL t.2.2.2) hx hb d_Mo_one_150 (iI_l (z := t.2.2.2) (by omega) (by omega)) ?_
              refine lv_iload hx hb d_Mo_one_151 (lv_at hl 0 rfl) ?_
              refine lv_i2l (v := iL (lowN r i nb)) hx hb d_Mo_one_153 (iI_l (z := lowN r i nb) (by omega) (by omega)) ?_
              refine lv_ldc2 (v := 20) hx hb hC.2.2.2.1 (hC.2.2.2.2 _ wx_Mo_164) d_Mo_one_154 ?_
              refine st_calli (np := 3) hC (c_Mo_in l (iL t.2.2.2) (iL (lowN r i nb)) 20 t.2.2.2 (lowN r i nb) 20 (iL_toInt (by omega) (by omega)) (iL_toInt (by omega) (by omega)) rfl) ⟨wl_Mo_91, wt_Mo_in, wc_Mo_in, wn_Mo⟩ ⟨by decide, by decide, by decide +kernel⟩ ⟨Nat.le_of_ble_eq_true rfl, Nat.le_of_ble_eq_true rfl⟩ hl.1 rfl (rest := []) rfl (Nat.le_of_ble_eq_true rfl) ⟨Nat.zero_le _, Nat.zero_le _⟩ d_Mo_one_157 (fun rr hrr => ?_)
              subst hrr
              refine bz_ne (tgt := 168) hx hb d_Mo_one_160 (by decide) (fun h15 => ?_) (fun h15 => ?_)
              · skip
                refine lv_aload_n hx hb d_Mo_one_168 rfl (lv_at hl 1 rfl) ?_
                refine mo_getr hC hK hM 4 wf_Mo_19 rfl (by decide) (by decide) d_Mo_one_169 ?_
                refine lv_bipush (v := 6) hx hb d_Mo_one_172 (by decide) ?_
                refine lv_iload_n hx hb d_Mo_one_174 rfl (lv_at hl 2 rfl) ?_
                refine lv_imul hx hb d_Mo_one_175 ?_
                refine topi_eq (pk_mul 6 ((64 * b) + s0.many)) ?_
                refine lv_iload hx hb d_Mo_one_176 (lv_at hl 4 rfl) ?_
                refine lv_iadd hx hb d_Mo_one_178 ?_
                refine topi_eq (nI_add (6 * ((64 * b) + s0.many)) i) ?_
                refine lv_aload_n hx hb d_Mo_one_179 rfl (lv_at hl 1 rfl) ?_
                refine mo_geti hC hK hM 13 wf_Mo_142 rfl rfl (by decide) (v := iI t.2.2.2) (hB2.2.2.2.2 (Or.inr (by omega))) d_Mo_one_180 ?_
                refine mo_iastN hC hK hM 4 ((6 * ((64 * b) + s0.many)) + i) (by decide) rfl (n := 3072) rfl (by decide) (i := nI ((6 * ((64 * b) + s0.many)) + i)) (x := iI t.2.2.2) (rfl) (by omega) d_Mo_one_183 (fun H locs hM => ?_)
                rw [bx_uu] at hM
                replace hM : MO D cT ad I1 J (va_up (va_up (va_up a 2 (upd (a 2) ((64 * b) + s0.many) (nI r))) 3 (upd (a 3) ((64 * b) + s0.many) ov)) 4 (upd N1 ((6 * ((64 * b) + s0.many)) + i) (iI t.2.2.2))) g s.heap H locs := hM
                refine lv_aload_n hx hb d_Mo_one_184 rfl (lv_at hl 1 rfl) ?_
                refine mo_callv (np := 0) hC hK hM (c_Mo_next l D cT ad I1 J (va_up (va_up (va_up a 2 (upd (a 2) ((64 * b) + s0.many) (nI r))) 3 (upd (a 3) ((64 * b) + s0.many) ov)) 4 (upd N1 ((6 * ((64 * b) + s0.many)) + i) (iI t.2.2.2))) g  0 tl t.2.2.1 tb (⟨(hfr 6 (by omega)).trans hT.1, hT.2⟩) (hw0) (by omega) (fun _ => ⟨hB2.2.1, hB3.2.1⟩)) rfl ⟨wl_Mo_158, wi_Mo_next, ws_Mo_next, wc_Mo_next, wn_Mo⟩ ⟨by decide, by decide, by decide +kernel⟩ ⟨Nat.le_of_ble_eq_true rfl, Nat.le_of_ble_eq_true rfl⟩ hl.1 rfl (rest := []) rfl (Nat.le_of_ble_eq_true rfl) ⟨Nat.zero_le _, Nat.zero_le _⟩ d_Mo_one_185 (fun I16 J16 a16 g16 H locs hp16 hM => ?_)
                obtain ⟨hq_p16, hp16⟩ := hp16
                cases hq_p16
                rw [if_neg (by decide)] at hp16
                refine lv_iinc (v := nI (i + 1)) (lv' := [(4, .int (nI (i + 1))), (5, .int (iI (lowN r i nb))), (0, .ref (ad 46)), (2, .int (nI ((64 * b) + s0.many))), (3, .int (nI r))]) hx hb d_Mo_one_188 hl (k := 4) rfl (nI_add i 1) (by decide) rfl (fun ls hl => ?_)
                refine lv_goto (tgt := 58) hx hb d_Mo_one_191 (by decide) ?_
                have hS := hB1.trans (numP_s (by omega) (by omega) h15)
                have hlo := lowN_b (r := r) (i := i) hB5
                exact ih58 (i + 1) (w3 (tok tl tb t.2.2.1)) ((tok tl tb t.2.2.1).2.1) (tok tl tb t.2.2.1) (fun j => if j = i then t.2.2.2 else nb j) I16 (upd N1 (6 * ((64 * b) + s0.many) + i) (iI t.2.2.2)) _ _ _ (by omega) (fun q hq => (hp16.1 q hq).trans (hfr q hq)) (fun j hj => (pk_un (by omega)).trans (hN0 j hj)) (by omega) (TKI_w hp16.2) (w3_4 _) (fun z => by have z3 := w3_y z; rw [z3.2]; exact ⟨hS.trans (numP_3 z3.1 _ _), (hp16.2.2.1 z3.1).2⟩) (fun z => ⟨hS, TKI_g hp16.2 (w3_n z), (tok_ok (by omega) hB3.2.1).1, (by have z2 := w3_n z; have z3 := tok_b (tl := tl) (tb := tb) (by omega) htb t.2.2.1; omega), (fun j => by by_cases e : j = i; (rw [if_pos e]; omega); (rw [if_neg e]; exact hB5 j)), (fun j hj => by by_cases e : j = i; (rw [if_pos e, e]; exact pk_us); (rw [if_neg e, pk_un (by omega)]; exact hB6 j (by omega)))⟩) (hM) (lv_sub hl [2, 3, 4, 0] rfl)
              · skip
                refine lv_aload_n hx hb d_Mo_one_163 rfl (lv_at hl 1 rfl) ?_
                refine lv_iconst (v := 3) hx hb d_Mo_one_164 (by decide) ?_
                refine mo_callv (np := 1) hC hK hM (c_Mo_fails l D cT ad I1 J (va_up (va_up (va_up a 2 (upd (a 2) ((64 * b) + s0.many) (nI r))) 3 (upd (a 3) ((64 * b) + s0.many) ov)) 4 N1) g 3) rfl ⟨wl_Mo_145, wi_Mo_fails, ws_Mo_fails, wc_Mo_fails, wn_Mo⟩ ⟨by decide, by decide, by decide +kernel⟩ ⟨Nat.le_of_ble_eq_true rfl, Nat.le_of_ble_eq_true rfl⟩ hl.1 rfl (rest := []) rfl (Nat.le_of_ble_eq_true rfl) ⟨Nat.zero_le _, Nat.zero_le _⟩ d_Mo_one_165 (fun I17 J17 a17 g17 H locs hp17 hM => ?_)
                cases hp17
                rw [if_pos (show I1 8 = 0 from hw0)] at hM
                refine lv_aload_n hx hb d_Mo_one_168 rfl (lv_at hl 1 rfl) ?_
                refine mo_getr hC hK hM 4 wf_Mo_19 rfl (by decide) (by decide) d_Mo_one_169 ?_
                refine lv_bipush (v := 6) hx hb d_Mo_one_172 (by decide) ?_
                refine lv_iload_n hx hb d_Mo_one_174 rfl (lv_at hl 2 rfl) ?_
                refine lv_imul hx hb d_Mo_one_175 ?_
                refine topi_eq (pk_mul 6 ((64 * b) + s0.many)) ?_
                refine lv_iload hx hb d_Mo_one_176 (lv_at hl 4 rfl) ?_
                refine lv_iadd hx hb d_Mo_one_178 ?_
                refine topi_eq (nI_add (6 * ((64 * b) + s0.many)) i) ?_
                refine lv_aload_n hx hb d_Mo_one_179 rfl (lv_at hl 1 rfl) ?_
                refine mo_geti hC hK hM 13 wf_Mo_142 rfl rfl (by decide) (v := iI t.2.2.2) (hB2.2.2.2.2 (Or.inr (by omega))) d_Mo_one_180 ?_
                refine mo_iastN hC hK hM 4 ((6 * ((64 * b) + s0.many)) + i) (by decide) rfl (n := 3072) rfl (by decide) (i := nI ((6 * ((64 * b) + s0.many)) + i)) (x := iI t.2.2.2) (rfl) (by omega) d_Mo_one_183 (fun H locs hM => ?_)
                rw [bx_uu] at hM
                replace hM : MO D cT ad (upd (upd I1 8 3) 9 (I1 11)) J (va_up (va_up (va_up a 2 (upd (a 2) ((64 * b) + s0.many) (nI r))) 3 (upd (a 3) ((64 * b) + s0.many) ov)) 4 (upd N1 ((6 * ((64 * b) + s0.many)) + i) (iI t.2.2.2))) g s.heap H locs := hM
                refine lv_aload_n hx hb d_Mo_one_184 rfl (lv_at hl 1 rfl) ?_
                refine mo_callv (np := 0) hC hK hM (c_Mo_next l D cT ad (upd (upd I1 8 3) 9 (I1 11)) J (va_up (va_up (va_up a 2 (upd (a 2) ((64 * b) + s0.many) (nI r))) 3 (upd (a 3) ((64 * b) + s0.many) ov)) 4 (upd N1 ((6 * ((64 * b) + s0.many)) + i) (iI t.2.2.2))) g  3 tl 0 tb (⟨(hfr 6 (by omega)).trans hT.1, hT.2⟩) rfl (by omega) (fun z => by omega)) rfl ⟨wl_Mo_158, wi_Mo_next, ws_Mo_next, wc_Mo_next, wn_Mo⟩ ⟨by decide, by decide, by decide +kernel⟩ ⟨Nat.le_of_ble_eq_true rfl, Nat.le_of_ble_eq_true rfl⟩ hl.1 rfl (rest := []) rfl (Nat.le_of_ble_eq_true rfl) ⟨Nat.zero_le _, Nat.zero_le _⟩ d_Mo_one_185 (fun I18 J18 a18 g18 H locs hp18 hM => ?_)
                obtain ⟨hq_p18, hp18⟩ := hp18
                cases hq_p18
                rw [if_pos (by decide)] at hp18
                replace hp18 : I18 = upd (upd I1 8 3) 9 (I1 11) := hp18
                subst hp18
                refine lv_iinc (v := nI (i + 1)) (lv' := [(4, .int (nI (i + 1))), (5, .int (iI (lowN r i nb))), (0, .ref (ad 46)), (2, .int (nI ((64 * b) + s0.many))), (3, .int (nI r))]) hx hb d_Mo_one_188 hl (k := 4) rfl (nI_add i 1) (by decide) rfl (fun ls hl => ?_)
                refine lv_goto (tgt := 58) hx hb d_Mo_one_191 (by decide) ?_
                exact ih58 (i + 1) 3 t.2.1 t nb (upd (upd I1 8 3) 9 (I1 11)) (upd N1 (6 * ((64 * b) + s0.many) + i) (iI t.2.2.2)) _ _ _ (by omega) (fun q hq => (pk_un (by omega)).trans ((pk_un (by omega)).trans (hfr q hq))) (fun j hj => (pk_un (by omega)).trans (hN0 j hj)) (by omega) (rfl) (by omega) (fun _ => ⟨hB1.trans (numP_4 (by omega) (by omega) (by assumption)), hB2.2.2.1⟩) (fun z => by omega) (hM) (lv_sub hl [2, 3, 4, 0] rfl)
            · skip
              refine lv_aload_n hx hb d_Mo_one_138 rfl (lv_at hl 1 rfl) ?_
              refine lv_iconst (v := 2) hx hb d_Mo_one_139 (by decide) ?_
              refine mo_callv (np := 1) hC hK hM (c_Mo_fails l D cT ad I1 J (va_up (va_up (va_up a 2 (upd (a 2) ((64 * b) + s0.many) (nI r))) 3 (upd (a 3) ((64 * b) + s0.many) ov)) 4 N1) g 2) rfl ⟨wl_Mo_145, wi_Mo_fails, ws_Mo_fails, wc_Mo_fails, wn_Mo⟩ ⟨by decide, by decide, by decide +kernel⟩ ⟨Nat.le_of_ble_eq_true rfl, Nat.le_of_ble_eq_true rfl⟩ hl.1 rfl (rest := []) rfl (Nat.le_of_ble_eq_true rfl) ⟨Nat.zero_le _, Nat.zero_le _⟩ d_Mo_one_140 (fun I19 J19 a19 g19 H locs hp19 hM => ?_)
              cases hp19
              rw [if_pos (show I1 8 = 0 from hw0)] at hM
              refine lv_goto (tgt := 168) hx hb d_Mo_one_143 (by decide) ?_
              refine lv_aload_n hx hb d_Mo_one_168 rfl (lv_at hl 1 rfl) ?_
              refine mo_getr hC hK hM 4 wf_Mo_19 rfl (by decide) (by decide) d_Mo_one_169 ?_
              refine lv_bipush (v := 6) hx hb d_Mo_one_172 (by decide) ?_
              refine lv_iload_n hx hb d_Mo_one_174 rfl (lv_at hl 2 rfl) ?_
              refine lv_imul hx hb d_Mo_one_175 ?_
              refine topi_eq (pk_mul 6 ((64 * b) + s0.many)) ?_
              refine lv_iload hx hb d_Mo_one_176 (lv_at hl 4 rfl) ?_
              refine lv_iadd hx hb d_Mo_one_178 ?_
              refine topi_eq (nI_add (6 * ((64 * b) + s0.many)) i) ?_
              refine lv_aload_n hx hb d_Mo_one_179 rfl (lv_at hl 1 rfl) ?_
              refine mo_geti hC hK hM 13 wf_Mo_142 rfl rfl (by decide) (v := I1 13) (rfl) d_Mo_one_180 ?_
              refine mo_iastN hC hK hM 4 ((6 * ((64 * b) + s0.many)) + i) (by decide) rfl (n := 3072) rfl (by decide) (i := nI ((6 * ((64 * b) + s0.many)) + i)) (x := I1 13) (rfl) (by omega) d_Mo_one_183 (fun H locs hM => ?_)
              rw [bx_uu] at hM
              replace hM : MO D cT ad (upd (upd I1 8 2) 9 (I1 11)) J (va_up (va_up (va_up a 2 (upd (a 2) ((64 * b) + s0.many) (nI r))) 3 (upd (a 3) ((64 * b) + s0.many) ov)) 4 (upd N1 ((6 * ((64 * b) + s0.many)) + i) (I1 13))) g s.heap H locs := hM
              refine lv_aload_n hx hb d_Mo_one_184 rfl (lv_at hl 1 rfl) ?_
              refine mo_callv (np := 0) hC hK hM (c_Mo_next l D cT ad (upd (upd I1 8 2) 9 (I1 11)) J (va_up (va_up (va_up a 2 (upd (a 2) ((64 * b) + s0.many) (nI r))) 3 (upd (a 3) ((64 * b) + s0.many) ov)) 4 (upd N1 ((6 * ((64 * b) + s0.many)) + i) (I1 13))) g  2 tl 0 tb (⟨(hfr 6 (by omega)).trans hT.1, hT.2⟩) rfl (by omega) (fun z => by omega)) rfl ⟨wl_Mo_158, wi_Mo_next, ws_Mo_next, wc_Mo_next, wn_Mo⟩ ⟨by decide, by decide, by decide +kernel⟩ ⟨Nat.le_of_ble_eq_true rfl, Nat.le_of_ble_eq_true rfl⟩ hl.1 rfl (rest := []) rfl (Nat.le_of_ble_eq_true rfl) ⟨Nat.zero_le _, Nat.zero_le _⟩ d_Mo_one_185 (fun I20 J20 a20 g20 H locs hp20 hM => ?_)
              obtain ⟨hq_p20, hp20⟩ := hp20
              cases hq_p20
              rw [if_pos (by decide)] at hp20
              replace hp20 : I20 = upd (upd I1 8 2) 9 (I1 11) := hp20
              subst hp20
              refine lv_iinc (v := nI (i + 1)) (lv' := [(4, .int (nI (i + 1))), (5, .int (iI (lowN r i nb))), (0, .ref (ad 46)), (2, .int (nI ((64 * b) + s0.many))), (3, .int (nI r))]) hx hb d_Mo_one_188 hl (k := 4) rfl (nI_add i 1) (by decide) rfl (fun ls hl => ?_)
              refine lv_goto (tgt := 58) hx hb d_Mo_one_191 (by decide) ?_
              exact ih58 (i + 1) 2 t.2.1 t nb (upd (upd I1 8 2) 9 (I1 11)) (upd N1 (6 * ((64 * b) + s0.many) + i) (I1 13)) _ _ _ (by omega) (fun q hq => (pk_un (by omega)).trans ((pk_un (by omega)).trans (hfr q hq))) (fun j hj => (pk_un (by omega)).trans (hN0 j hj)) (by omega) (rfl) (by omega) (fun _ => ⟨hB1.trans (numP_2 (by omega) (by omega) (by omega)), hB2.2.2.1⟩) (fun z => by omega) (hM) (lv_sub hl [2, 3, 4, 0] rfl)
    exact hL58 _ 0 (w3 (tok tl tb s0.t.2.2.1)) ((tok tl tb s0.t.2.2.1).2.1) (tok tl tb s0.t.2.2.1) (fun _ => 0) I2 (a 4) _ _ _ (Nat.lt_succ_self _) (hp2.1) (fun _ _ => rfl) (Nat.zero_le _) (TKI_w hp2.2) (w3_4 _) (fun z => by have z3 := w3_y z; rw [z3.2]; exact ⟨numP_3 z3.1 _ _, (hp2.2.2.1 z3.1).2⟩) (fun z => ⟨rfl, TKI_g hp2.2 (w3_n z), (tok_ok (by omega) hto.2.1).1, (by have z2 := w3_n z; have z3 := tok_b (tl := tl) (tb := tb) (by omega) htb s0.t.2.2.1; omega), (fun _ => by omega), (fun j hj => by omega)⟩) (by rw [up_same2 (f := va_up (va_up a 2 (upd (a 2) ((64 * b) + s0.many) (nI r))) 3 (upd (a 3) ((64 * b) + s0.many) ov)) (k := 4) (x := a 4) (by rfl)]; exact hM) (lv_sub hl [3, 2, 1, 0] rfl)
  · skip
    refine lv_aload_n hx hb d_Mo_one_8 rfl (lv_at hl 0 rfl) ?_
    refine lv_iconst (v := 2) hx hb d_Mo_one_9 (by decide) ?_
    refine mo_callv (np := 1) hC hK hM (c_Mo_fails l D cT ad I J a g 2) rfl ⟨wl_Mo_145, wi_Mo_fails, ws_Mo_fails, wc_Mo_fails, wn_Mo⟩ ⟨by decide, by decide, by decide +kernel⟩ ⟨Nat.le_of_ble_eq_true rfl, Nat.le_of_ble_eq_true rfl⟩ hl.1 rfl (rest := []) rfl (Nat.le_of_ble_eq_true rfl) ⟨Nat.zero_le _, Nat.zero_le _⟩ d_Mo_one_10 (fun I21 J21 a21 g21 H locs hp21 hM => ?_)
    cases hp21
    rw [if_pos (show I 8 = 0 from hw0)] at hM
    exact hret _ _ _ _ _ _ _ _ d_Mo_one_13 hM (⟨rfl, rfl, one_no (by omega) hg⟩)
