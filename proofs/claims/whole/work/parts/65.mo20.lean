/-! the reference: a body out of the tape -/
def SK (Wn Sn : Nat → Int32) : List (Nat × Nat) → Prop
  | [] => True
  | (w, o) :: R => Wn (R.length + 1) = nI w ∧ w ≤ 2 ∧ (0 < R.length → Sn (R.length + 1) = nI o) ∧ SK Wn Sn R
theorem SK_up {Wn Sn Wn' Sn' : Nat → Int32} : ∀ (L : List (Nat × Nat)), (∀ j, j ≤ L.length → Wn' j = Wn j ∧ Sn' j = Sn j) → SK Wn Sn L → SK Wn' Sn' L
  | [], _, _ => trivial
  | (w, o) :: R, h, hs => by
    have hl : ((w, o) :: R).length = R.length + 1 := rfl
    obtain ⟨h1, h2, h3, h4⟩ := hs
    have e := h (R.length + 1) (by omega)
    exact ⟨by rw [e.1]; exact h1, h2, fun z => by rw [e.2]; exact h3 z, SK_up R (fun j hj => h j (by omega)) h4⟩
def LW : List (Nat × Nat) → Prop
  | [] => True
  | (w, _) :: R => (R = [] → w = 0) ∧ LW R
theorem LW_pop : ∀ (L : List (Nat × Nat)), LW L → LW (popZ L)
  | [], _ => trivial
  | (w, o) :: R, h => by
    unfold popZ
    split
    · exact LW_pop R h.2
    · exact h
theorem pop_pop : ∀ (L : List (Nat × Nat)), popZ (popZ L) = popZ L
  | [] => rfl
  | (w, o) :: R => by
    have e : popZ ((w, o) :: R) = if w = 0 then popZ R else (w, o) :: R := rfl
    by_cases h : w = 0
    · rw [e, if_pos h]; exact pop_pop R
    · rw [e, if_neg h]; exact e.trans (if_neg h)
theorem pop_le : ∀ (L : List (Nat × Nat)), (popZ L).length ≤ L.length
  | [] => Nat.le_refl _
  | (w, o) :: R => by
    have := pop_le R
    have hl : ((w, o) :: R).length = R.length + 1 := rfl
    unfold popZ
    split <;> omega
theorem pop_top {w o : Nat} {R : List (Nat × Nat)} (h : popZ ((w, o) :: R) = (w, o) :: R) : ¬ w = 0 := fun z => by
  have h2 := pop_le R
  unfold popZ at h
  rw [if_pos z] at h
  rw [h] at h2
  have hl : ((w, o) :: R).length = R.length + 1 := rfl
  omega
theorem L_cons {L : List (Nat × Nat)} (h : 0 < L.length) : ∃ w o R, L = (w, o) :: R := by
  cases L with
  | nil => cases h
  | cons x R => exact ⟨x.1, x.2, R, rfl⟩
theorem L_nil {L : List (Nat × Nat)} (h : ¬ 0 < L.length) : L = [] := by
  cases L with
  | nil => rfl
  | cons x R => exact absurd (Nat.succ_pos _) h
def txO (r : Nat) : Nat := if r < 3 then 0 else if r < 6 then 2 else 1
theorem txO_eq {r : Nat} (h : r ≤ 9) : (if nI r < 3 then 0 else if nI r < 6 then 2 else 1 : Int32) = nI (txO r) := by
  rcases (show r = 0 ∨ r = 1 ∨ r = 2 ∨ r = 3 ∨ r = 4 ∨ r = 5 ∨ r = 6 ∨ r = 7 ∨ r = 8 ∨ r = 9 by omega) with rfl | rfl | rfl | rfl | rfl | rfl | rfl | rfl | rfl | rfl <;> decide
theorem txO_2 (r : Nat) : txO r ≤ 2 := by unfold txO; (repeat' split) <;> omega
theorem psh_0 {r k w ov : Nat} {R : List (Nat × Nat)} (h : ¬ 0 < txO r) : psh r k w ov R = (w, ov) :: R := by
  unfold txO at h
  unfold psh
  split
  · rfl
  · rename_i h3
    rw [if_neg h3] at h
    split at h <;> omega
theorem psh_1 {r k w ov : Nat} {R : List (Nat × Nat)} (h : 0 < txO r) : psh r k w ov R = (txO r, k) :: (w, ov) :: R := by
  unfold txO at *
  unfold psh
  split
  · rename_i h3
    rw [if_pos h3] at h
    omega
  · split <;> rfl
/-- before the last look at the tape's end -/
def RES (tl : Nat) (tb : Nat → Nat) : FA ⊕ PS := if (tok tl tb 0).1 = 3 then .inl (1, (tok tl tb 0).2.1) else prs tl tb 10 0 (s00 tl tb)
/-- between two texts -/
def BB2 (tl : Nat) (tb : Nat → Nat) (b n : Nat) (s1 : PS) (L : List (Nat × Nat)) (I1 : Nat → Int32) (a1 : Nat → Nat → Int32) : Prop := mach tl tb n s1 L = some (RES tl tb) ∧ TKg I1 s1.t ∧ TKo tl tb s1.t ∧ s1.t.1 ≤ 3 ∧ QQ s1 ∧ RW a1 b s1 ∧ SK (a1 14) (a1 15) L ∧ popZ L = L ∧ ((s1.many = 0 ∧ L = [(1, 0)]) ∨ (0 < s1.many ∧ LW L))
theorem numP_b {tl : Nat} {tb : Nat → Nat} (h4 : tl ≤ 400) (htb : ∀ j, j < tl → tb j < 256) {r : Nat} : ∀ (m i : Nat) (t : TT) (nb : Nat → Int) (q : TT × (Nat → Int)), t.1 ≤ 3 → numP tl tb r m i t nb = .inr q → q.1.1 ≤ 2
  | 0, i, t, nb, q, ht, h => by
    unfold numP at h
    by_cases c : t.1 = 3
    · rw [if_pos c] at h; cases h
    · rw [if_neg c] at h
      cases h
      show t.1 ≤ 2
      omega
  | m + 1, i, t, nb, q, ht, h => by
    unfold numP at h
    by_cases c : t.1 = 3
    · rw [if_pos c] at h; cases h
    · rw [if_neg c] at h
      by_cases c2 : t.1 = 2
      · rw [if_neg (fun z => z c2)] at h
        by_cases c3 : lowN r i nb ≤ t.2.2.2 ∧ t.2.2.2 ≤ 20
        · rw [if_neg (fun z => z c3)] at h
          exact numP_b h4 htb m (i + 1) _ _ q (tok_b h4 htb _).1 h
        · rw [if_pos c3] at h; cases h
      · rw [if_pos c2] at h; cases h
section BY
variable {tl : Nat} {tb : Nat → Nat}
theorem QQ_54 (h160 : tl ≤ 160) {s : PS} (ht : TKo tl tb s.t) (hq : QQ s) : s.many ≤ 53 := by
  have h1 := hq.1
  have h2 := ht.1
  have h3 := ht.2.1
  omega
theorem bb_0 (h160 : tl ≤ 160) (htb : ∀ j, j < tl → tb j < 256) {b n : Nat} {I1 : Nat → Int32} {a1 : Nat → Nat → Int32} (hn : mach tl tb n (s00 tl tb) [(1, 0)] = some (prs tl tb 10 0 (s00 tl tb))) (hk : TKI I1 (tok tl tb 0)) (h3 : ¬ (tok tl tb 0).1 = 3) (h1 : a1 1 b = 0) (h14 : a1 14 1 = 1) : BB2 tl tb b n (s00 tl tb) [(1, 0)] I1 a1 := by
  have k := s00_ok (tl := tl) (tb := tb) h160
  have e : RES tl tb = prs tl tb 10 0 (s00 tl tb) := if_neg h3
  refine ⟨by rw [e]; exact hn, TKI_g hk h3, k.1, (tok_b (by omega) htb 0).1, k.2, ⟨h1, fun j hj => absurd hj (Nat.not_lt_zero _), fun j _ hj => absurd hj (Nat.not_lt_zero _), fun j hj => absurd hj (Nat.not_lt_zero _)⟩, ⟨h14, by omega, fun z => absurd z (Nat.not_lt_zero _), trivial⟩, rfl, Or.inl ⟨rfl, rfl⟩⟩
theorem bb_ov {b n w ov : Nat} {R : List (Nat × Nat)} {s1 : PS} {I1 : Nat → Int32} {a1 : Nat → Nat → Int32} (h : BB2 tl tb b n s1 ((w, ov) :: R) I1 a1) : 0 < s1.many → a1 15 (R.length + 1) = nI ov := by
  obtain ⟨_, _, _, _, _, _, h7, h8, h9⟩ := h
  intro hm
  rcases h9 with h9 | h9
  · omega
  · refine h7.2.2.1 ?_
    cases R with
    | nil => exact absurd (h9.2.1 rfl) (pop_top h8)
    | cons x R => exact Nat.succ_pos _
theorem bb_4 {b n w ov : Nat} {R : List (Nat × Nat)} {s1 : PS} {I1 : Nat → Int32} {a1 : Nat → Nat → Int32} (h : BB2 tl tb b n s1 ((w, ov) :: R) I1 a1) (hR : 10 ≤ R.length) : RES tl tb = .inl (4, s1.t.2.1) := by
  have h1 := h.1
  cases n with
  | zero => cases h1
  | succ n =>
    have h2 : (if 10 ≤ R.length then some (.inl (4, s1.t.2.1)) else _) = some (RES tl tb) := h1
    rw [if_pos hR] at h2
    exact (Option.some.inj h2).symm
theorem bb_n {b n w ov : Nat} {R : List (Nat × Nat)} {s1 : PS} {I1 : Nat → Int32} {a1 : Nat → Nat → Int32} (h : BB2 tl tb b n s1 ((w, ov) :: R) I1 a1) : 0 < n := by
  have h1 := h.1
  cases n with
  | zero => cases h1
  | succ n => exact Nat.succ_pos _
theorem bb_f {b n w ov : Nat} {R : List (Nat × Nat)} {s1 : PS} {I1 : Nat → Int32} {a1 : Nat → Nat → Int32} (h : BB2 tl tb b n s1 ((w, ov) :: R) I1 a1) (hR : R.length < 10) (hf : ¬ fw (oneP tl tb ov s1) = 0) : RES tl tb = .inl (fw (oneP tl tb ov s1), fp (oneP tl tb ov s1)) := by
  have hn := bb_n h
  have h1 := h.1
  rw [show n = (n - 1) + 1 by omega] at h1
  cases ho : oneP tl tb ov s1 with
  | inr s2 => rw [ho] at hf; exact absurd rfl hf
  | inl f =>
    rw [mach_f hR ho] at h1
    exact (Option.some.inj h1).symm
theorem bb_s {b n w ov : Nat} {R : List (Nat × Nat)} {s1 s2 : PS} {I1 : Nat → Int32} {a1 : Nat → Nat → Int32} (h160 : tl ≤ 160) (htb : ∀ j, j < tl → tb j < 256) (h : BB2 tl tb b n s1 ((w, ov) :: R) I1 a1) (hR : R.length < 10) (ho : oneP tl tb ov s1 = .inr s2) : mach tl tb (n - 1) s2 (popZ (psh (rul s1) s1.many (w - 1) ov R)) = some (RES tl tb) ∧ TKo tl tb s2.t ∧ QQ s2 ∧ s2.many = s1.many + 1 ∧ rul s1 ≤ 9 ∧ s2.kd s1.many = rul s1 ∧ s2.t.1 ≤ 2 ∧ LW (psh (rul s1) s1.many (w - 1) ov R) := by
  have hn := bb_n h
  obtain ⟨h1, h2, h3, h4, h5, h6, h7, h8, h9⟩ := h
  rw [show n = (n - 1) + 1 by omega, mach_o hR ho] at h1
  obtain ⟨q1, q2, q3⟩ := one_q (by omega) h3 h5 ho
  obtain ⟨q, rfl, c1, c2, c3, c4, c5, c6, c7, c8, c9⟩ := oneP_ok (by omega) h3 ho
  have hw := pop_top h8
  have hL : LW ((w - 1, ov) :: R) := by
    rcases h9 with ⟨_, e⟩ | ⟨_, h9⟩
    · cases e
      exact ⟨fun _ => rfl, trivial⟩
    · refine ⟨fun z => ?_, h9.2⟩
      have := h9.1 z
      omega
  refine ⟨h1, q2, q1, rfl, c2, if_pos rfl, ?_, ?_⟩
  · -- the kind of a token that is read
    show q.1.1 ≤ 2
    have ho2 : oneP tl tb ov s1 = .inr (putR s1 ov q) := ho
    unfold oneP at ho2
    rw [if_neg (fun z => z c1)] at ho2
    cases hn2 : numP tl tb (rul s1) (nOf (rul s1)) 0 (tok tl tb s1.t.2.2.1) (fun _ => 0) with
    | inl f => rw [hn2] at ho2; cases ho2
    | inr q' =>
      rw [hn2] at ho2
      have e : q' = q := by
        have e1 := congrArg (fun x : FA ⊕ PS => match x with | .inl _ => q'.1 | .inr s => s.1) ho2
        have e2 : q'.1 = q.1 := e1
        have e3 := congrArg (fun x : FA ⊕ PS => match x with | .inl _ => q'.2 | .inr s => s.2.2.2.1 s1.many) ho2
        have e4 : (if s1.many = s1.many then q'.2 else s1.nb s1.many) = (if s1.many = s1.many then q.2 else s1.nb s1.many) := e3
        rw [if_pos rfl, if_pos rfl] at e4
        exact Prod.ext e2 e4
      rw [← e]
      exact numP_b (by omega) htb _ _ _ _ _ (tok_b (by omega) htb _).1 hn2
  · by_cases z : 0 < txO (rul s1)
    · rw [psh_1 z]
      exact ⟨fun z => absurd z (List.cons_ne_nil _ _), hL⟩
    · rw [psh_0 z]
      exact hL
end BY
theorem nI_pr1 {n : Nat} : iI ((↑(n + 1) : Int) - 1) = nI n := by rw [nI_iI]; congr 1; omega
theorem nI_pr2 {n : Nat} : iI ((↑(n + 1) : Int) + (-1)) = nI n := by rw [nI_iI]; congr 1; omega
set_option maxRecDepth 100000 in
theorem m10 (n : Nat) : (-10 : Int32) - nI n = iI (-10 - (n : Int)) := by rw [nI_iI, ← iI_sub, show (-10 : Int32) = iI (-10) by decide]
/-- what body() leaves of the reference -/
def bodyQ (tl : Nat) (tb : Nat → Nat) (b : Nat) (I : Nat → Int32) (a : Nat → Nat → Int32) (r : Int32) (I' : Nat → Int32) (a' : Nat → Nat → Int32) : Prop := (∀ q, (0 < q ∧ q < 6) ∨ 13 < q → I' q = I q) ∧ FR a a' b ∧ I' 6 = 0 ∧ (∀ f, prW tl tb = .inl f → r = iI (-10 - (f.2 : Int)) ∧ I' 7 = nI f.1 ∧ I' 0 = nI b) ∧ (∀ s, prW tl tb = .inr s → r = nI b ∧ I' 7 = 0 ∧ I' 0 = nI (b + 1) ∧ BDT a' b (txt s))
section BZ
variable {tl : Nat} {tb : Nat → Nat}
theorem prW_f {f : FA} (h : RES tl tb = .inl f) : prW tl tb = .inl f := by
  unfold RES at h
  unfold prW
  by_cases c : (tok tl tb 0).1 = 3
  · rw [if_pos c] at h ⊢; exact h ▸ rfl
  · rw [if_neg c] at h ⊢
    rw [h]
theorem prW_s {s : PS} (h : RES tl tb = .inr s) : prW tl tb = if ¬ s.t.1 = 0 then .inl (2, s.t.2.1) else .inr s := by
  unfold RES at h
  unfold prW
  by_cases c : (tok tl tb 0).1 = 3
  · rw [if_pos c] at h; cases h
  · rw [if_neg c] at h ⊢
    rw [h]
theorem BDT_txt (h160 : tl ≤ 160) {a : Nat → Nat → Int32} {b : Nat} {s : PS} (h : prW tl tb = .inr s) (hR : RW a b s) : BDT a b (txt s) := by
  obtain ⟨_, h2, h3, h4⟩ := prW_ok h160 h
  have hlt := WT_lt _ _ _ h2
  have hp := WT_pln (many := s.many) 10 0 s.many h2 (Nat.le_refl _)
  refine ⟨hR.1, by show 1 ≤ s.many; omega, by show s.many ≤ 64; omega, fun k hk => ⟨hR.2.1 k hk, (h4 k hk).1⟩, fun k h0 hk => ⟨hR.2.2.1 k h0 hk, (WT_ab _ _ _ h2 k h0 hk).2⟩, fun k hk i hi => ?_, fun k i => ?_, fun k hk h9 => ?_, fun n hn g1 g2 => hp.2 n (by omega) (by show n < s.many - 0; exact hn) g1 g2, ?_⟩
  · have hk : k < s.many := hk
    show a 4 (6 * (64 * b + k) + i) = iI (if k < s.many then s.nb k i else 0)
    rw [if_pos hk]
    exact hR.2.2.2 k hk i hi
  · show -20 ≤ (if k < s.many then s.nb k i else 0) ∧ (if k < s.many then s.nb k i else 0) ≤ 20
    split
    · exact (h4 k (by assumption)).2.1 i
    · omega
  · have hk : k < s.many := hk
    show 1 ≤ (if k < s.many then s.nb k 0 else 0)
    rw [if_pos hk]
    exact (h4 k hk).2.2.1 h9
  · have e := hp.1
    rw [Nat.sub_self, Nat.sub_zero] at e
    exact e
end BZ
set_option maxHeartbeats 4000000 in
set_option maxRecDepth 100000 in
theorem c_Mo_body (l : Launch) (D : va_G) (cT : Nat → ClassId) (ad : Nat → Nat) (I : Nat → Int32) (J : Nat → Int64) (a : Nat → Nat → Int32) (g : Nat → Nat → Int64)  (b tl : Nat) (tb : Nat → Nat) (hT : TP I a tl tb) (hb0 : I 0 = nI b) (hb9 : b ≤ 8) : MMi l D cT ad y_Mo_body b_Mo_body 4 (some .int) 3 73 [] I J a g (fun r u => u.2.1 = J ∧ u.2.2.2 = g ∧ if b < 8 then bodyQ tl tb b I a r u.1 u.2.2.1 else (r = -3 ∧ u.1 = I ∧ u.2.2.1 = a)) := by
  refine mo_enti (by decide) rfl (Nat.le_of_ble_eq_true rfl) ?_
  intro p e s m args below meth c Q hC hK hM hret ls hl
  have hx := hC.1
  have hb := hC.2.1
  replace hl : lv_has ls 4 [(0, .ref (ad 46))] := hl
  have htb : ∀ j, j < tl → tb j < 256 := fun j hj => (hT.2.2 j hj).2
  have h160 := hT.2.1
  refine lv_aload_n hx hb d_Mo_body_0 rfl (lv_at hl 0 rfl) ?_
  refine mo_geti hC hK hM 0 wf_Mo_155 rfl rfl (by decide) (v := nI b) (hb0) d_Mo_body_1 ?_
  refine lv_bipush (v := 8) hx hb d_Mo_body_4 (by decide) ?_
  refine nc_ne hx hb b 8 (by omega) (by omega) d_Mo_body_6 (tgt := 12) (by decide) (fun h1 => ?_) (fun h1 => ?_)
  · skip
    have hb8 : b < 8 := by omega
    skip
    obtain ⟨n0, hn0⟩ := mach_all (tl := tl) (tb := tb) (s00 tl tb)
    refine lv_aload_n hx hb d_Mo_body_12 rfl (lv_at hl 0 rfl) ?_
    refine lv_iconst (v := 0) hx hb d_Mo_body_13 (by decide) ?_
    refine mo_puti hC hK hM 8 wf_Mo_95 rfl rfl (by decide) rfl (by decide +kernel) (x := 0) d_Mo_body_14 (fun H locs hM => ?_)
    refine lv_aload_n hx hb d_Mo_body_17 rfl (lv_at hl 0 rfl) ?_
    refine lv_iconst (v := 0) hx hb d_Mo_body_18 (by decide) ?_
    refine mo_puti hC hK hM 10 wf_Mo_124 rfl rfl (by decide) rfl (by decide +kernel) (x := 0) d_Mo_body_19 (fun H locs hM => ?_)
    refine lv_aload_n hx hb d_Mo_body_22 rfl (lv_at hl 0 rfl) ?_
    refine mo_getr hC hK hM 1 wf_Mo_7 rfl (by decide) (by decide) d_Mo_body_23 ?_
    refine lv_aload_n hx hb d_Mo_body_26 rfl (lv_at hl 0 rfl) ?_
    refine mo_geti hC hK hM 0 wf_Mo_155 rfl rfl (by decide) (v := nI b) (hb0) d_Mo_body_27 ?_
    refine lv_iconst (v := 0) hx hb d_Mo_body_30 (by decide) ?_
    refine mo_iastN hC hK hM 1 b (by decide) rfl (n := 8) rfl (by decide) (i := nI b) (x := 0) (rfl) (by omega) d_Mo_body_31 (fun H locs hM => ?_)
    refine lv_iconst (v := 1) hx hb d_Mo_body_32 (by decide) ?_
    refine lv_istore_n (lv' := [(1, .int 1), (0, .ref (ad 46))]) hx hb d_Mo_body_33 rfl hl (by decide) rfl (fun ls hl => ?_)
    refine lv_aload_n hx hb d_Mo_body_34 rfl (lv_at hl 1 rfl) ?_
    refine mo_getr hC hK hM 14 wf_Mo_25 rfl (by decide) (by decide) d_Mo_body_35 ?_
    refine lv_iconst (v := 1) hx hb d_Mo_body_38 (by decide) ?_
    refine lv_iconst (v := 1) hx hb d_Mo_body_39 (by decide) ?_
    refine mo_iastN hC hK hM 14 1 (by decide) rfl (n := 12) rfl (by decide) (i := 1) (x := 1) (rfl) (by decide) d_Mo_body_40 (fun H locs hM => ?_)
    replace hM : MO D cT ad (upd (upd I 8 0) 10 0) J (va_up (va_up a 1 (upd (a 1) b 0)) 14 (upd (a 14) 1 1)) g s.heap H locs := hM
    refine lv_aload_n hx hb d_Mo_body_41 rfl (lv_at hl 1 rfl) ?_
    refine mo_getr hC hK hM 15 wf_Mo_28 rfl (by decide) (by decide) d_Mo_body_42 ?_
    refine lv_iconst (v := 1) hx hb d_Mo_body_45 (by decide) ?_
    refine lv_bipush (v := (-4)) hx hb d_Mo_body_46 (by decide) ?_
    refine mo_iastN hC hK hM 15 1 (by decide) rfl (n := 12) rfl (by decide) (i := 1) (x := (-4)) (rfl) (by decide) d_Mo_body_48 (fun H locs hM => ?_)
    replace hM : MO D cT ad (upd (upd I 8 0) 10 0) J (va_up (va_up (va_up a 1 (upd (a 1) b 0)) 14 (upd (a 14) 1 1)) 15 (upd (a 15) 1 (-4))) g s.heap H locs := hM
    refine lv_aload_n hx hb d_Mo_body_49 rfl (lv_at hl 1 rfl) ?_
    refine mo_callv (np := 0) hC hK hM (c_Mo_next l D cT ad (upd (upd I 8 0) 10 0) J (va_up (va_up (va_up a 1 (upd (a 1) b 0)) 14 (upd (a 14) 1 1)) 15 (upd (a 15) 1 (-4))) g  0 tl 0 tb (hT) (rfl) (by omega) (fun _ => ⟨rfl, Nat.zero_le _⟩)) rfl ⟨wl_Mo_158, wi_Mo_next, ws_Mo_next, wc_Mo_next, wn_Mo⟩ ⟨by decide, by decide, by decide +kernel⟩ ⟨Nat.le_of_ble_eq_true rfl, Nat.le_of_ble_eq_true rfl⟩ hl.1 rfl (rest := []) rfl (Nat.le_of_ble_eq_true rfl) ⟨Nat.zero_le _, Nat.zero_le _⟩ d_Mo_body_50 (fun I2 J2 a2 g2 H locs hp2 hM => ?_)
    obtain ⟨hq_p2, hp2⟩ := hp2
    cases hq_p2
    rw [if_neg (by decide)] at hp2
    have hL53 : ∀ (nn : Nat) (n : Nat) (wr : Nat) (pl : Nat) (s1 : PS) (L : List (Nat × Nat)) (I1 : Nat → Int32) (a1 : Nat → Nat → Int32) (H : Heap) (locs : List Loc) (ls : Array Slot), (if wr = 0 then n + 1 else 0) < nn → (∀ q, q < 8 ∨ 13 < q → I1 q = I q) → (FR a a1 b) → (L.length ≤ 11) → (I1 8 = nI wr) → (wr ≤ 4) → (0 < wr → RES tl tb = .inl (wr, pl) ∧ I1 9 = nI pl) → (wr = 0 → BB2 tl tb b n s1 L I1 a1) → MO D cT ad I1 J a1 g s.heap H locs → lv_has ls 4 [(0, .ref (ad 46)), (1, .int (nI L.length))] → W p l e (rmOf 3 73) s m args below meth c H locs 0 0 Q (F0 m 53 ls []) := by
      intro nn
      induction nn with
      | zero =>
        intro n wr pl s1 L I1 a1 H locs ls hmeas53 hfr hFR hL11 hwr hw4 hA hB hM hl
        exact absurd hmeas53 (Nat.not_lt_zero _)
      | succ nn ih53 =>
        intro n wr pl s1 L I1 a1 H locs ls hmeas53 hfr hFR hL11 hwr hw4 hA hB hM hl
        refine lv_aload_n hx hb d_Mo_body_53 rfl (lv_at hl 0 rfl) ?_
        refine mo_geti hC hK hM 8 wf_Mo_95 rfl rfl (by decide) (v := nI wr) (hwr) d_Mo_body_54 ?_
        refine nz_ne hx hb wr (by omega) d_Mo_body_57 (tgt := 178) (by decide) (fun h3 => ?_) (fun h3 => ?_)
        · skip
          refine lv_aload_n hx hb d_Mo_body_178 rfl (lv_at hl 0 rfl) ?_
          refine mo_geti hC hK hM 8 wf_Mo_95 rfl rfl (by decide) (v := nI wr) (hwr) d_Mo_body_179 ?_
          refine nz_ne hx hb wr (by omega) d_Mo_body_182 (tgt := 197) (by decide) (fun h4 => ?_) (fun h4 => ?_)
          · skip
            refine lv_aload_n hx hb d_Mo_body_197 rfl (lv_at hl 0 rfl) ?_
            refine lv_iconst (v := 0) hx hb d_Mo_body_198 (by decide) ?_
            refine mo_puti hC hK hM 6 wf_Mo_87 rfl rfl (by decide) rfl (by decide +kernel) (x := 0) d_Mo_body_199 (fun H locs hM => ?_)
            refine lv_aload_n hx hb d_Mo_body_202 rfl (lv_at hl 0 rfl) ?_
            refine lv_aload_n hx hb d_Mo_body_203 rfl (lv_at hl 0 rfl) ?_
            refine mo_geti hC hK hM 8 wf_Mo_95 rfl rfl (by decide) (v := nI wr) (hwr) d_Mo_body_204 ?_
            refine mo_puti hC hK hM 7 wf_Mo_172 rfl rfl (by decide) rfl (by decide +kernel) (x := nI wr) d_Mo_body_207 (fun H locs hM => ?_)
            refine lv_aload_n hx hb d_Mo_body_210 rfl (lv_at hl 0 rfl) ?_
            refine mo_geti hC hK hM 8 wf_Mo_95 rfl rfl (by decide) (v := nI wr) (hwr) d_Mo_body_211 ?_
            refine nz_le hx hb wr (by omega) d_Mo_body_214 (tgt := 225) (by decide) (fun h5 => ?_) (fun h5 => ?_)
            · skip
              refine lv_aload_n hx hb d_Mo_body_225 rfl (lv_at hl 0 rfl) ?_
              refine lv_dup hx hb d_Mo_body_226 rfl ?_
              refine mo_geti hC hK hM 0 wf_Mo_155 rfl rfl (by decide) (v := nI b) ((hfr 0 (by omega)).trans hb0) d_Mo_body_227 ?_
              refine lv_iconst (v := 1) hx hb d_Mo_body_230 (by decide) ?_
              refine lv_iadd hx hb d_Mo_body_231 ?_
              refine topi_eq (nI_add b 1) ?_
              refine mo_puti hC hK hM 0 wf_Mo_155 rfl rfl (by decide) rfl (by decide +kernel) (x := nI (b + 1)) d_Mo_body_232 (fun H locs hM => ?_)
              refine lv_aload_n hx hb d_Mo_body_235 rfl (lv_at hl 0 rfl) ?_
              refine mo_geti hC hK hM 0 wf_Mo_155 rfl rfl (by decide) (v := nI (b + 1)) (rfl) d_Mo_body_236 ?_
              refine lv_iconst (v := 1) hx hb d_Mo_body_239 (by decide) ?_
              refine lv_isub hx hb d_Mo_body_240 ?_
              refine topi_eq (iI_sub (↑(b + 1) : Int) 1) ?_
              refine hret _ _ _ _ _ _ _ _ _ d_Mo_body_241 hM ?_
              refine ⟨rfl, rfl, ?_⟩
              rw [if_pos hb8]
              exfalso
              omega
            · skip
              refine lv_bipush (v := (-10)) hx hb d_Mo_body_217 (by decide) ?_
              refine lv_aload_n hx hb d_Mo_body_219 rfl (lv_at hl 0 rfl) ?_
              refine mo_geti hC hK hM 9 wf_Mo_101 rfl rfl (by decide) (v := I1 9) (rfl) d_Mo_body_220 ?_
              refine lv_isub hx hb d_Mo_body_223 ?_
              refine hret _ _ _ _ _ _ _ _ _ d_Mo_body_224 hM ?_
              refine ⟨rfl, rfl, ?_⟩
              rw [if_pos hb8]
              obtain ⟨hA1, hA2⟩ := hA (by omega)
              refine ⟨fun q hq => by show upd _ _ _ q = _; (repeat rw [pk_un (by omega)]); exact hfr q (by omega), hFR, rfl, fun f hf => ?_, fun s2 hs => ?_⟩
              · rw [prW_f hA1] at hf
                cases hf
                exact ⟨by rw [hA2]; exact m10 _, rfl, (hfr 0 (by omega)).trans hb0⟩
              · rw [prW_f hA1] at hs
                cases hs
          · exfalso; omega
        · skip
          refine lv_iload_n hx hb d_Mo_body_60 rfl (lv_at hl 1 rfl) ?_
          refine nz_le hx hb L.length (by omega) d_Mo_body_61 (tgt := 178) (by decide) (fun h6 => ?_) (fun h6 => ?_)
          · skip
            refine lv_aload_n hx hb d_Mo_body_178 rfl (lv_at hl 0 rfl) ?_
            refine mo_geti hC hK hM 8 wf_Mo_95 rfl rfl (by decide) (v := nI wr) (hwr) d_Mo_body_179 ?_
            refine nz_ne hx hb wr (by omega) d_Mo_body_182 (tgt := 197) (by decide) (fun h7 => ?_) (fun h7 => ?_)
            · exfalso; omega
            · skip
              have hLn := L_nil (L := L) (by omega)
              replace hB := hB (by omega)
              have hRS : RES tl tb = .inr s1 := by have z := hB.1; rw [hLn] at z; cases n <;> exact (Option.some.inj z).symm
              have hw0 := hB.2.1.1
              have ht9 := hB.2.2.2.1
              refine lv_aload_n hx hb d_Mo_body_185 rfl (lv_at hl 0 rfl) ?_
              refine mo_geti hC hK hM 12 wf_Mo_131 rfl rfl (by decide) (v := nI s1.t.1) (hB.2.1.2.2.2.1) d_Mo_body_186 ?_
              refine nz_eq hx hb s1.t.1 (by omega) d_Mo_body_189 (tgt := 197) (by decide) (fun h8 => ?_) (fun h8 => ?_)
              · skip
                refine lv_aload_n hx hb d_Mo_body_197 rfl (lv_at hl 0 rfl) ?_
                refine lv_iconst (v := 0) hx hb d_Mo_body_198 (by decide) ?_
                refine mo_puti hC hK hM 6 wf_Mo_87 rfl rfl (by decide) rfl (by decide +kernel) (x := 0) d_Mo_body_199 (fun H locs hM => ?_)
                refine lv_aload_n hx hb d_Mo_body_202 rfl (lv_at hl 0 rfl) ?_
                refine lv_aload_n hx hb d_Mo_body_203 rfl (lv_at hl 0 rfl) ?_
                refine mo_geti hC hK hM 8 wf_Mo_95 rfl rfl (by decide) (v := nI wr) (hwr) d_Mo_body_204 ?_
                refine mo_puti hC hK hM 7 wf_Mo_172 rfl rfl (by decide) rfl (by decide +kernel) (x := nI wr) d_Mo_body_207 (fun H locs hM => ?_)
                refine lv_aload_n hx hb d_Mo_body_210 rfl (lv_at hl 0 rfl) ?_
                refine mo_geti hC hK hM 8 wf_Mo_95 rfl rfl (by decide) (v := nI wr) (hwr) d_Mo_body_211 ?_
                refine nz_le hx hb wr (by omega) d_Mo_body_214 (tgt := 225) (by decide) (fun h9 => ?_) (fun h9 => ?_)
                · skip
                  refine lv_aload_n hx hb d_Mo_body_225 rfl (lv_at hl 0 rfl) ?_
                  refine lv_dup hx hb d_Mo_body_226 rfl ?_
                  refine mo_geti hC hK hM 0 wf_Mo_155 rfl rfl (by decide) (v := nI b) ((hfr 0 (by omega)).trans hb0) d_Mo_body_227 ?_
                  refine lv_iconst (v := 1) hx hb d_Mo_body_230 (by decide) ?_
                  refine lv_iadd hx hb d_Mo_body_231 ?_
                  refine topi_eq (nI_add b 1) ?_
                  refine mo_puti hC hK hM 0 wf_Mo_155 rfl rfl (by decide) rfl (by decide +kernel) (x := nI (b + 1)) d_Mo_body_232 (fun H locs hM => ?_)
                  refine lv_aload_n hx hb d_Mo_body_235 rfl (lv_at hl 0 rfl) ?_
                  refine mo_geti hC hK hM 0 wf_Mo_155 rfl rfl (by decide) (v := nI (b + 1)) (rfl) d_Mo_body_236 ?_
                  refine lv_iconst (v := 1) hx hb d_Mo_body_239 (by decide) ?_
                  refine lv_isub hx hb d_Mo_body_240 ?_
                  refine topi_eq (iI_sub (↑(b + 1) : Int) 1) ?_
                  refine hret _ _ _ _ _ _ _ _ _ d_Mo_body_241 hM ?_
                  refine ⟨rfl, rfl, ?_⟩
                  rw [if_pos hb8]
                  have hW := prW_s hRS
                  rw [if_neg (by omega)] at hW
                  refine ⟨fun q hq => by show upd _ _ _ q = _; (repeat rw [pk_un (by omega)]); exact hfr q (by omega), hFR, rfl, fun f hf => ?_, fun s2 hs => ?_⟩
                  · rw [hW] at hf
                    cases hf
                  · rw [hW] at hs
                    cases hs
                    exact ⟨nI_pr1, by show nI wr = 0; rw [show wr = 0 by omega]; rfl, rfl, BDT_txt hT.2.1 hW hB.2.2.2.2.2.1⟩
                · skip
                  refine lv_bipush (v := (-10)) hx hb d_Mo_body_217 (by decide) ?_
                  refine lv_aload_n hx hb d_Mo_body_219 rfl (lv_at hl 0 rfl) ?_
                  refine mo_geti hC hK hM 9 wf_Mo_101 rfl rfl (by decide) (v := I1 9) (rfl) d_Mo_body_220 ?_
                  refine lv_isub hx hb d_Mo_body_223 ?_
                  refine hret _ _ _ _ _ _ _ _ _ d_Mo_body_224 hM ?_
                  refine ⟨rfl, rfl, ?_⟩
                  rw [if_pos hb8]
                  obtain ⟨hA1, hA2⟩ := hA (by omega)
                  refine ⟨fun q hq => by show upd _ _ _ q = _; (repeat rw [pk_un (by omega)]); exact hfr q (by omega), hFR, rfl, fun f hf => ?_, fun s2 hs => ?_⟩
                  · rw [prW_f hA1] at hf
                    cases hf
                    exact ⟨by rw [hA2]; exact m10 _, rfl, (hfr 0 (by omega)).trans hb0⟩
                  · rw [prW_f hA1] at hs
                    cases hs
              · skip
                refine lv_aload_n hx hb d_Mo_body_192 rfl (lv_at hl 0 rfl) ?_
                refine lv_iconst (v := 2) hx hb d_Mo_body_193 (by decide) ?_
                refine mo_callv (np := 1) hC hK hM (c_Mo_fails l D cT ad I1 J a1 g 2) rfl ⟨wl_Mo_145, wi_Mo_fails, ws_Mo_fails, wc_Mo_fails, wn_Mo⟩ ⟨by decide, by decide, by decide +kernel⟩ ⟨Nat.le_of_ble_eq_true rfl, Nat.le_of_ble_eq_true rfl⟩ hl.1 rfl (rest := []) rfl (Nat.le_of_ble_eq_true rfl) ⟨Nat.zero_le _, Nat.zero_le _⟩ d_Mo_body_194 (fun I10 J10 a10 g10 H locs hp10 hM => ?_)
                cases hp10
                rw [if_pos (show I1 8 = 0 from hw0)] at hM
                refine lv_aload_n hx hb d_Mo_body_197 rfl (lv_at hl 0 rfl) ?_
                refine lv_iconst (v := 0) hx hb d_Mo_body_198 (by decide) ?_
                refine mo_puti hC hK hM 6 wf_Mo_87 rfl rfl (by decide) rfl (by decide +kernel) (x := 0) d_Mo_body_199 (fun H locs hM => ?_)
                refine lv_aload_n hx hb d_Mo_body_202 rfl (lv_at hl 0 rfl) ?_
                refine lv_aload_n hx hb d_Mo_body_203 rfl (lv_at hl 0 rfl) ?_
                refine mo_geti hC hK hM 8 wf_Mo_95 rfl rfl (by decide) (v := 2) (rfl) d_Mo_body_204 ?_
                refine mo_puti hC hK hM 7 wf_Mo_172 rfl rfl (by decide) rfl (by decide +kernel) (x := 2) d_Mo_body_207 (fun H locs hM => ?_)
                refine lv_aload_n hx hb d_Mo_body_210 rfl (lv_at hl 0 rfl) ?_
                refine mo_geti hC hK hM 8 wf_Mo_95 rfl rfl (by decide) (v := 2) (rfl) d_Mo_body_211 ?_
                refine iz_le (tgt := 225) hx hb d_Mo_body_214 (by decide) (fun h11 => ?_) (fun h11 => ?_)
                · exact absurd h11 (by decide)
                · skip
                  refine lv_bipush (v := (-10)) hx hb d_Mo_body_217 (by decide) ?_
                  refine lv_aload_n hx hb d_Mo_body_219 rfl (lv_at hl 0 rfl) ?_
                  refine mo_geti hC hK hM 9 wf_Mo_101 rfl rfl (by decide) (v := I1 11) (rfl) d_Mo_body_220 ?_
                  refine lv_isub hx hb d_Mo_body_223 ?_
                  refine hret _ _ _ _ _ _ _ _ _ d_Mo_body_224 hM ?_
                  refine ⟨rfl, rfl, ?_⟩
                  rw [if_pos hb8]
                  refine ⟨fun q hq => by show upd _ _ _ q = _; (repeat rw [pk_un (by omega)]); exact hfr q (by omega), hFR, rfl, fun f hf => ?_, fun s2 hs => ?_⟩
                  · rw [prW_s hRS, if_pos (by omega)] at hf
                    cases hf
                    exact ⟨by rw [hB.2.1.2.2.1]; exact m10 _, rfl, (hfr 0 (by omega)).trans hb0⟩
                  · rw [prW_s hRS, if_pos (by omega)] at hs
                    cases hs
          · skip
            have hw9 : wr = 0 := by omega
            replace hB := hB hw9
            obtain ⟨w, ov, R, rfl⟩ := L_cons (L := L) (by omega)
            have hlen : ((w, ov) :: R).length = R.length + 1 := rfl
            replace hl : lv_has ls 4 [(0, .ref (ad 46)), (1, .int (nI (R.length + 1)))] := hl
            have hw0 := hB.2.1.1
            refine lv_iload_n hx hb d_Mo_body_64 rfl (lv_at hl 1 rfl) ?_
            refine lv_bipush (v := 10) hx hb d_Mo_body_65 (by decide) ?_
            refine nc_le hx hb (R.length + 1) 10 (by omega) (by omega) d_Mo_body_67 (tgt := 78) (by decide) (fun h12 => ?_) (fun h12 => ?_)
            · skip
              refine lv_aload_n hx hb d_Mo_body_78 rfl (lv_at hl 0 rfl) ?_
              refine lv_aload_n hx hb d_Mo_body_79 rfl (lv_at hl 0 rfl) ?_
              refine mo_getr hC hK hM 15 wf_Mo_28 rfl (by decide) (by decide) d_Mo_body_80 ?_
              refine lv_iload_n hx hb d_Mo_body_83 rfl (lv_at hl 1 rfl) ?_
              refine mo_ialdN hC hK hM 15 (R.length + 1) (by decide) rfl (n := 12) rfl (by decide) (i := nI (R.length + 1)) (rfl) (by omega) (v := (a1 15) (R.length + 1)) (rfl) d_Mo_body_84 ?_
              refine mo_callv (np := 1) hC hK hM (c_Mo_one l D cT ad I1 J a1 g ((a1 15) (R.length + 1)) b tl ov tb s1 ⟨(hfr 6 (by omega)).trans hT.1, hT.2.1, fun j hj => by rw [hFR.1 5 (by omega) (by omega) (by omega)]; exact hT.2.2 j hj⟩ ((hfr 0 (by omega)).trans hb0) (by omega) hB.2.2.2.2.2.1 (by have := QQ_54 (tl := tl) (tb := tb) hT.2.1 hB.2.2.1 hB.2.2.2.2.1; omega) hB.2.1 hB.2.2.2.1 hB.2.2.1 (bb_ov hB)) rfl ⟨wl_Mo_166, wi_Mo_one, ws_Mo_one, wc_Mo_one, wn_Mo⟩ ⟨by decide, by decide, by decide +kernel⟩ ⟨Nat.le_of_ble_eq_true rfl, Nat.le_of_ble_eq_true rfl⟩ hl.1 rfl (rest := []) rfl (Nat.le_of_ble_eq_true rfl) ⟨Nat.zero_le _, Nat.zero_le _⟩ d_Mo_body_85 (fun I13 J13 a13 g13 H locs hp13 hM => ?_)
              obtain ⟨e1_p13, e2_p13, hq_p13⟩ := hp13
              rw [show J13 = J from e1_p13, show g13 = g from e2_p13] at hM
              replace hq_p13 : oneQ tl tb b ov s1 I1 a1 I13 a13 := hq_p13
              have hfw_p13 := hq_p13.2.2.2.2.2.1
              refine lv_aload_n hx hb d_Mo_body_88 rfl (lv_at hl 0 rfl) ?_
              refine mo_geti hC hK hM 8 wf_Mo_95 rfl rfl (by decide) (v := nI (fw (oneP tl tb ov s1))) (hq_p13.2.2.2.2.1) d_Mo_body_89 ?_
              refine nz_ne hx hb (fw (oneP tl tb ov s1)) (by omega) d_Mo_body_92 (tgt := 53) (by decide) (fun h14 => ?_) (fun h14 => ?_)
              · skip
                exact ih53 n (fw (oneP tl tb ov s1)) (fp (oneP tl tb ov s1)) s1 ((w, ov) :: R) I13 a13 _ _ _ (by rw [if_neg (by omega)]; rw [if_pos hw9] at hmeas53; omega) (fun q hq => (hq_p13.1 q hq).trans (hfr q hq)) (FR_tr hFR hq_p13.2.1) (hL11) (hq_p13.2.2.2.2.1) (hfw_p13) (fun z => ⟨bb_f hB (by omega) (by omega), by cases ho : oneP tl tb ov s1 with | inl f => exact (hq_p13.2.2.2.2.2.2.1 f ho).2 | inr s2 => rw [ho] at z; exact absurd z (Nat.lt_irrefl 0)⟩) (fun z => absurd z (by omega)) (hM) (lv_sub hl [0, 1] rfl)
              · skip
                obtain ⟨s2, hs2⟩ : ∃ s2, oneP tl tb ov s1 = .inr s2 := by
                  cases ho : oneP tl tb ov s1 with
                  | inl f =>
                    have z := (hq_p13.2.2.2.2.2.2.1 f ho).1
                    have z2 : fw (oneP tl tb ov s1) = f.1 := by rw [ho]; rfl
                    omega
                  | inr s2 => exact ⟨s2, rfl⟩
                obtain ⟨hs_1, hs_2, hs_3, hs_4, hs_5, hs_6, hs_7, hs_8⟩ := bb_s hT.2.1 htb hB (by omega) hs2
                obtain ⟨hs_g, hs_r⟩ := hq_p13.2.2.2.2.2.2.2 s2 hs2
                have hw1 := pop_top hB.2.2.2.2.2.2.2.1
                have hw2 := hB.2.2.2.2.2.2.1.2.1
                have hx2 := txO_2 (rul s1)
                have hm53 := QQ_54 (tl := tl) (tb := tb) hT.2.1 hB.2.2.1 hB.2.2.2.2.1
                refine lv_aload_n hx hb d_Mo_body_95 rfl (lv_at hl 0 rfl) ?_
                refine mo_getr hC hK hM 14 wf_Mo_25 rfl (by decide) (by decide) d_Mo_body_96 ?_
                refine lv_iload_n hx hb d_Mo_body_99 rfl (lv_at hl 1 rfl) ?_
                refine lv_dup2_11 hx hb d_Mo_body_100 rfl rfl ?_
                refine mo_ialdN hC hK hM 14 (R.length + 1) (by decide) rfl (n := 12) rfl (by decide) (i := nI (R.length + 1)) (rfl) (by omega) (v := nI w) ((congrFun hq_p13.2.2.1 _).trans hB.2.2.2.2.2.2.1.1) d_Mo_body_101 ?_
                refine lv_iconst (v := 1) hx hb d_Mo_body_102 (by decide) ?_
                refine lv_isub hx hb d_Mo_body_103 ?_
                refine topi_eq (iI_sub (↑w : Int) 1) ?_
                refine topi_eq (show iI ((↑w : Int) - 1) = nI (w - 1) by rw [nI_iI]; congr 1; omega) ?_
                refine mo_iastN hC hK hM 14 (R.length + 1) (by decide) rfl (n := 12) rfl (by decide) (i := nI (R.length + 1)) (x := nI (w - 1)) (rfl) (by omega) d_Mo_body_104 (fun H locs hM => ?_)
                refine lv_aload_n hx hb d_Mo_body_105 rfl (lv_at hl 0 rfl) ?_
                refine mo_getr hC hK hM 1 wf_Mo_7 rfl (by decide) (by decide) d_Mo_body_106 ?_
                refine lv_aload_n hx hb d_Mo_body_109 rfl (lv_at hl 0 rfl) ?_
                refine mo_geti hC hK hM 0 wf_Mo_155 rfl rfl (by decide) (v := nI b) ((hq_p13.1 0 (by omega)).trans ((hfr 0 (by omega)).trans hb0)) d_Mo_body_110 ?_
                refine mo_ialdN hC hK hM 1 b (by decide) rfl (n := 8) rfl (by decide) (i := nI b) (rfl) (by omega) (v := nI (s1.many + 1)) (hs_r.1.trans (by rw [hs_4])) d_Mo_body_113 ?_
                refine lv_iconst (v := 1) hx hb d_Mo_body_114 (by decide) ?_
                refine lv_isub hx hb d_Mo_body_115 ?_
                refine topi_eq (iI_sub (↑(s1.many + 1) : Int) 1) ?_
                refine topi_eq (show iI ((↑(s1.many + 1) : Int) - 1) = nI s1.many from nI_pr1) ?_
                refine lv_istore_n (lv' := [(2, .int (nI s1.many)), (0, .ref (ad 46)), (1, .int (nI (R.length + 1)))]) hx hb d_Mo_body_116 rfl hl (by decide) rfl (fun ls hl => ?_)
                refine lv_aload_n hx hb d_Mo_body_117 rfl (lv_at hl 1 rfl) ?_
                refine mo_getr hC hK hM 2 wf_Mo_13 rfl (by decide) (by decide) d_Mo_body_118 ?_
                refine lv_bipush (v := 64) hx hb d_Mo_body_121 (by decide) ?_
                refine lv_aload_n hx hb d_Mo_body_123 rfl (lv_at hl 1 rfl) ?_
                refine mo_geti hC hK hM 0 wf_Mo_155 rfl rfl (by decide) (v := nI b) ((hq_p13.1 0 (by omega)).trans ((hfr 0 (by omega)).trans hb0)) d_Mo_body_124 ?_
                refine lv_imul hx hb d_Mo_body_127 ?_
                refine topi_eq (pk_mul 64 b) ?_
                refine lv_iload_n hx hb d_Mo_body_128 rfl (lv_at hl 0 rfl) ?_
                refine lv_iadd hx hb d_Mo_body_129 ?_
                refine topi_eq (nI_add (64 * b) s1.many) ?_
                refine mo_ialdN hC hK hM 2 ((64 * b) + s1.many) (by decide) rfl (n := 512) rfl (by decide) (i := nI ((64 * b) + s1.many)) (rfl) (by omega) (v := nI (rul s1)) ((hs_r.2.1 s1.many (by omega)).trans (by rw [hs_6])) d_Mo_body_130 ?_
                refine st_calli (np := 1) hC (c_Mo_textsOf l (nI (rul s1))) ⟨wl_Mo_169, wt_Mo_textsOf, wc_Mo_textsOf, wn_Mo⟩ ⟨by decide, by decide, by decide +kernel⟩ ⟨Nat.le_of_ble_eq_true rfl, Nat.le_of_ble_eq_true rfl⟩ hl.1 rfl (rest := []) rfl (Nat.le_of_ble_eq_true rfl) ⟨Nat.zero_le _, Nat.zero_le _⟩ d_Mo_body_131 (fun rr hrr => ?_)
                replace hrr : rr = nI (txO (rul s1)) := hrr.trans (txO_eq hs_5)
                subst hrr
                refine lv_istore_n (lv' := [(3, .int (nI (txO (rul s1)))), (2, .int (nI s1.many)), (0, .ref (ad 46)), (1, .int (nI (R.length + 1)))]) hx hb d_Mo_body_134 rfl hl (by decide) rfl (fun ls hl => ?_)
                refine lv_iload_n hx hb d_Mo_body_135 rfl (lv_at hl 0 rfl) ?_
                refine nz_le hx hb (txO (rul s1)) (by omega) d_Mo_body_136 (tgt := 156) (by decide) (fun h15 => ?_) (fun h15 => ?_)
                · skip
                  have hL156 : ∀ (nn : Nat) (L2 : List (Nat × Nat)) (a2 : Nat → Nat → Int32) (H : Heap) (locs : List Loc) (ls : Array Slot), L2.length < nn → (FR a a2 b) → (RW a2 b s2) → (SK (a2 14) (a2 15) L2) → (LW L2) → (popZ L2 = popZ (psh (rul s1) s1.many (w - 1) ov R)) → (L2.length ≤ 11) → MO D cT ad I13 J a2 g s.heap H locs → lv_has ls 4 [(0, .ref (ad 46)), (1, .int (nI L2.length))] → W p l e (rmOf 3 73) s m args below meth c H locs 0 0 Q (F0 m 156 ls []) := by
                    intro nn
                    induction nn with
                    | zero =>
                      intro L2 a2 H locs ls hmeas156 hFR2 hRW2 hSK2 hLW2 hpz h211 hM hl
                      exact absurd hmeas156 (Nat.not_lt_zero _)
                    | succ nn ih156 =>
                      intro L2 a2 H locs ls hmeas156 hFR2 hRW2 hSK2 hLW2 hpz h211 hM hl
                      refine lv_iload_n hx hb d_Mo_body_156 rfl (lv_at hl 1 rfl) ?_
                      refine nz_le hx hb L2.length (by omega) d_Mo_body_157 (tgt := 175) (by decide) (fun h16 => ?_) (fun h16 => ?_)
                      · skip
                        refine lv_goto (tgt := 53) hx hb d_Mo_body_175 (by decide) ?_
                        have hpz9 : popZ (psh (rul s1) s1.many (w - 1) ov R) = L2 := by rw [← hpz]; rw [L_nil (L := L2) (by omega)]; rfl
                        exact ih53 (n - 1) 0 0 s2 L2 I13 a2 _ _ _ (by rw [if_pos rfl]; rw [if_pos hw9] at hmeas53; have := bb_n hB; omega) (fun q hq => (hq_p13.1 q hq).trans (hfr q hq)) (hFR2) (h211) (hs_g.1) (by omega) (fun z => absurd z (by omega)) (fun _ => ⟨by rw [← hpz9]; exact hs_1, hs_g, hs_2, by omega, hs_3, hRW2, hSK2, by rw [← hpz9]; exact pop_pop _, Or.inr ⟨by omega, by rw [← hpz9]; exact LW_pop _ hs_8⟩⟩) (hM) (lv_sub hl [0, 1] rfl)
                      · skip
                        obtain ⟨w2, o2, R2, rfl⟩ := L_cons (L := L2) (by omega)
                        have hlen2 : ((w2, o2) :: R2).length = R2.length + 1 := rfl
                        replace hl : lv_has ls 4 [(0, .ref (ad 46)), (1, .int (nI (R2.length + 1)))] := hl
                        have hw22 := hSK2.2.1
                        refine lv_aload_n hx hb d_Mo_body_160 rfl (lv_at hl 0 rfl) ?_
                        refine mo_getr hC hK hM 14 wf_Mo_25 rfl (by decide) (by decide) d_Mo_body_161 ?_
                        refine lv_iload_n hx hb d_Mo_body_164 rfl (lv_at hl 1 rfl) ?_
                        refine mo_ialdN hC hK hM 14 (R2.length + 1) (by decide) rfl (n := 12) rfl (by decide) (i := nI (R2.length + 1)) (rfl) (by omega) (v := nI w2) (hSK2.1) d_Mo_body_165 ?_
                        refine nz_ne hx hb w2 (by omega) d_Mo_body_166 (tgt := 175) (by decide) (fun h17 => ?_) (fun h17 => ?_)
                        · skip
                          refine lv_goto (tgt := 53) hx hb d_Mo_body_175 (by decide) ?_
                          have hpz9 : popZ (psh (rul s1) s1.many (w - 1) ov R) = (w2, o2) :: R2 := by rw [← hpz]; exact if_neg (by omega)
                          exact ih53 (n - 1) 0 0 s2 ((w2, o2) :: R2) I13 a2 _ _ _ (by rw [if_pos rfl]; rw [if_pos hw9] at hmeas53; have := bb_n hB; omega) (fun q hq => (hq_p13.1 q hq).trans (hfr q hq)) (hFR2) (h211) (hs_g.1) (by omega) (fun z => absurd z (by omega)) (fun _ => ⟨by rw [← hpz9]; exact hs_1, hs_g, hs_2, by omega, hs_3, hRW2, hSK2, by rw [← hpz9]; exact pop_pop _, Or.inr ⟨by omega, by rw [← hpz9]; exact LW_pop _ hs_8⟩⟩) (hM) (lv_sub hl [0, 1] rfl)
                        · skip
                          refine lv_iinc (v := iI ((↑(R2.length + 1) : Int) + (-1))) (lv' := [(1, .int (iI ((↑(R2.length + 1) : Int) + (-1)))), (0, .ref (ad 46))]) hx hb d_Mo_body_169 hl (k := 1) rfl (iI_add (↑(R2.length + 1) : Int) (-1)) (by decide) rfl (fun ls hl => ?_)
                          rw [nI_pr2] at hl
                          refine lv_goto (tgt := 156) hx hb d_Mo_body_172 (by decide) ?_
                          exact ih156 R2 a2 _ _ _ (by have hl9 : ((w2, o2) :: R2).length = R2.length + 1 := rfl; omega) (hFR2) (hRW2) (hSK2.2.2.2) (hLW2.2) (by rw [← hpz, show w2 = 0 by omega]; rfl) (by have hl9 : ((w2, o2) :: R2).length = R2.length + 1 := rfl; omega) (hM) (lv_sub hl [1, 0] rfl)
                  have hsk9 : SK (upd (a13 14) (R.length + 1) (nI (w - 1))) (a13 15) ((w - 1, ov) :: R) := ⟨pk_us, by have := hB.2.2.2.2.2.2.1.2.1; omega, fun z => by rw [hq_p13.2.2.2.1]; exact hB.2.2.2.2.2.2.1.2.2.1 z, SK_up R (fun j hj => ⟨(pk_un (by omega)).trans (congrFun hq_p13.2.2.1 j), congrFun hq_p13.2.2.2.1 j⟩) hB.2.2.2.2.2.2.1.2.2.2⟩
                  have hl9 : ((w - 1, ov) :: R).length = R.length + 1 := rfl
                  have hl8 : ((txO (rul s1), s1.many) :: (w - 1, ov) :: R).length = (R.length + 1) + 1 := rfl
                  have hFRb := FR_tr hFR hq_p13.2.1
                  exact hL156 _ ((w - 1, ov) :: R) (va_up a13 14 (upd (a13 14) (R.length + 1) (nI (w - 1)))) _ _ _ (Nat.lt_succ_self _) (⟨fun k h0 h1 h2 => (va_up_ne _ _ (by omega)).trans (hFRb.1 k h0 h1 h2), hFRb.2⟩) (hs_r) (hsk9) (by rw [← psh_0 (by omega)]; exact hs_8) (by rw [psh_0 (by omega)]) (by omega) (hM) (lv_sub hl [2, 3] rfl)
                · skip
                  refine lv_iinc (v := nI ((R.length + 1) + 1)) (lv' := [(1, .int (nI ((R.length + 1) + 1))), (3, .int (nI (txO (rul s1)))), (2, .int (nI s1.many)), (0, .ref (ad 46))]) hx hb d_Mo_body_139 hl (k := 3) rfl (nI_add (R.length + 1) 1) (by decide) rfl (fun ls hl => ?_)
                  refine lv_aload_n hx hb d_Mo_body_142 rfl (lv_at hl 3 rfl) ?_
                  refine mo_getr hC hK hM 14 wf_Mo_25 rfl (by decide) (by decide) d_Mo_body_143 ?_
                  refine lv_iload_n hx hb d_Mo_body_146 rfl (lv_at hl 0 rfl) ?_
                  refine lv_iload_n hx hb d_Mo_body_147 rfl (lv_at hl 1 rfl) ?_
                  refine mo_iastN hC hK hM 14 ((R.length + 1) + 1) (by decide) rfl (n := 12) rfl (by decide) (i := nI ((R.length + 1) + 1)) (x := nI (txO (rul s1))) (rfl) (by omega) d_Mo_body_148 (fun H locs hM => ?_)
                  rw [bx_uu] at hM
                  replace hM : MO D cT ad I13 J (va_up a13 14 (upd (upd (a13 14) (R.length + 1) (nI (w - 1))) ((R.length + 1) + 1) (nI (txO (rul s1))))) g s.heap H locs := hM
                  refine lv_aload_n hx hb d_Mo_body_149 rfl (lv_at hl 3 rfl) ?_
                  refine mo_getr hC hK hM 15 wf_Mo_28 rfl (by decide) (by decide) d_Mo_body_150 ?_
                  refine lv_iload_n hx hb d_Mo_body_153 rfl (lv_at hl 0 rfl) ?_
                  refine lv_iload_n hx hb d_Mo_body_154 rfl (lv_at hl 2 rfl) ?_
                  refine mo_iastN hC hK hM 15 ((R.length + 1) + 1) (by decide) rfl (n := 12) rfl (by decide) (i := nI ((R.length + 1) + 1)) (x := nI s1.many) (rfl) (by omega) d_Mo_body_155 (fun H locs hM => ?_)
                  replace hM : MO D cT ad I13 J (va_up (va_up a13 14 (upd (upd (a13 14) (R.length + 1) (nI (w - 1))) ((R.length + 1) + 1) (nI (txO (rul s1))))) 15 (upd (a13 15) ((R.length + 1) + 1) (nI s1.many))) g s.heap H locs := hM
                  have hL156 : ∀ (nn : Nat) (L2 : List (Nat × Nat)) (a2 : Nat → Nat → Int32) (H : Heap) (locs : List Loc) (ls : Array Slot), L2.length < nn → (FR a a2 b) → (RW a2 b s2) → (SK (a2 14) (a2 15) L2) → (LW L2) → (popZ L2 = popZ (psh (rul s1) s1.many (w - 1) ov R)) → (L2.length ≤ 11) → MO D cT ad I13 J a2 g s.heap H locs → lv_has ls 4 [(0, .ref (ad 46)), (1, .int (nI L2.length))] → W p l e (rmOf 3 73) s m args below meth c H locs 0 0 Q (F0 m 156 ls []) := by
                    intro nn
                    induction nn with
                    | zero =>
                      intro L2 a2 H locs ls hmeas156 hFR2 hRW2 hSK2 hLW2 hpz h211 hM hl
                      exact absurd hmeas156 (Nat.not_lt_zero _)
                    | succ nn ih156 =>
                      intro L2 a2 H locs ls hmeas156 hFR2 hRW2 hSK2 hLW2 hpz h211 hM hl
                      refine lv_iload_n hx hb d_Mo_body_156 rfl (lv_at hl 1 rfl) ?_
                      refine nz_le hx hb L2.length (by omega) d_Mo_body_157 (tgt := 175) (by decide) (fun h18 => ?_) (fun h18 => ?_)
                      · skip
                        refine lv_goto (tgt := 53) hx hb d_Mo_body_175 (by decide) ?_
                        have hpz9 : popZ (psh (rul s1) s1.many (w - 1) ov R) = L2 := by rw [← hpz]; rw [L_nil (L := L2) (by omega)]; rfl
                        exact ih53 (n - 1) 0 0 s2 L2 I13 a2 _ _ _ (by rw [if_pos rfl]; rw [if_pos hw9] at hmeas53; have := bb_n hB; omega) (fun q hq => (hq_p13.1 q hq).trans (hfr q hq)) (hFR2) (h211) (hs_g.1) (by omega) (fun z => absurd z (by omega)) (fun _ => ⟨by rw [← hpz9]; exact hs_1, hs_g, hs_2, by omega, hs_3, hRW2, hSK2, by rw [← hpz9]; exact pop_pop _, Or.inr ⟨by omega, by rw [← hpz9]; exact LW_pop _ hs_8⟩⟩) (hM) (lv_sub hl [0, 1] rfl)
                      · skip
                        obtain ⟨w2, o2, R2, rfl⟩ := L_cons (L := L2) (by omega)
                        have hlen2 : ((w2, o2) :: R2).length = R2.length + 1 := rfl
                        replace hl : lv_has ls 4 [(0, .ref (ad 46)), (1, .int (nI (R2.length + 1)))] := hl
                        have hw22 := hSK2.2.1
                        refine lv_aload_n hx hb d_Mo_body_160 rfl (lv_at hl 0 rfl) ?_
                        refine mo_getr hC hK hM 14 wf_Mo_25 rfl (by decide) (by decide) d_Mo_body_161 ?_
                        refine lv_iload_n hx hb d_Mo_body_164 rfl (lv_at hl 1 rfl) ?_
                        refine mo_ialdN hC hK hM 14 (R2.length + 1) (by decide) rfl (n := 12) rfl (by decide) (i := nI (R2.length + 1)) (rfl) (by omega) (v := nI w2) (hSK2.1) d_Mo_body_165 ?_
                        refine nz_ne hx hb w2 (by omega) d_Mo_body_166 (tgt := 175) (by decide) (fun h19 => ?_) (fun h19 => ?_)
                        · skip
                          refine lv_goto (tgt := 53) hx hb d_Mo_body_175 (by decide) ?_
                          have hpz9 : popZ (psh (rul s1) s1.many (w - 1) ov R) = (w2, o2) :: R2 := by rw [← hpz]; exact if_neg (by omega)
                          exact ih53 (n - 1) 0 0 s2 ((w2, o2) :: R2) I13 a2 _ _ _ (by rw [if_pos rfl]; rw [if_pos hw9] at hmeas53; have := bb_n hB; omega) (fun q hq => (hq_p13.1 q hq).trans (hfr q hq)) (hFR2) (h211) (hs_g.1) (by omega) (fun z => absurd z (by omega)) (fun _ => ⟨by rw [← hpz9]; exact hs_1, hs_g, hs_2, by omega, hs_3, hRW2, hSK2, by rw [← hpz9]; exact pop_pop _, Or.inr ⟨by omega, by rw [← hpz9]; exact LW_pop _ hs_8⟩⟩) (hM) (lv_sub hl [0, 1] rfl)
                        · skip
                          refine lv_iinc (v := iI ((↑(R2.length + 1) : Int) + (-1))) (lv' := [(1, .int (iI ((↑(R2.length + 1) : Int) + (-1)))), (0, .ref (ad 46))]) hx hb d_Mo_body_169 hl (k := 1) rfl (iI_add (↑(R2.length + 1) : Int) (-1)) (by decide) rfl (fun ls hl => ?_)
                          rw [nI_pr2] at hl
                          refine lv_goto (tgt := 156) hx hb d_Mo_body_172 (by decide) ?_
                          exact ih156 R2 a2 _ _ _ (by have hl9 : ((w2, o2) :: R2).length = R2.length + 1 := rfl; omega) (hFR2) (hRW2) (hSK2.2.2.2) (hLW2.2) (by rw [← hpz, show w2 = 0 by omega]; rfl) (by have hl9 : ((w2, o2) :: R2).length = R2.length + 1 := rfl; omega) (hM) (lv_sub hl [1, 0] rfl)
                  have hsk9 : SK (upd (a13 14) (R.length + 1) (nI (w - 1))) (a13 15) ((w - 1, ov) :: R) := ⟨pk_us, by have := hB.2.2.2.2.2.2.1.2.1; omega, fun z => by rw [hq_p13.2.2.2.1]; exact hB.2.2.2.2.2.2.1.2.2.1 z, SK_up R (fun j hj => ⟨(pk_un (by omega)).trans (congrFun hq_p13.2.2.1 j), congrFun hq_p13.2.2.2.1 j⟩) hB.2.2.2.2.2.2.1.2.2.2⟩
                  have hl9 : ((w - 1, ov) :: R).length = R.length + 1 := rfl
                  have hl8 : ((txO (rul s1), s1.many) :: (w - 1, ov) :: R).length = (R.length + 1) + 1 := rfl
                  have hFRb := FR_tr hFR hq_p13.2.1
                  exact hL156 _ ((txO (rul s1), s1.many) :: (w - 1, ov) :: R) (va_up (va_up a13 14 (upd (upd (a13 14) (R.length + 1) (nI (w - 1))) ((R.length + 1) + 1) (nI (txO (rul s1))))) 15 (upd (a13 15) ((R.length + 1) + 1) (nI s1.many))) _ _ _ (Nat.lt_succ_self _) (⟨fun k h0 h1 h2 => (va_up_ne _ _ (by omega)).trans ((va_up_ne _ _ (by omega)).trans (hFRb.1 k h0 h1 h2)), hFRb.2⟩) (hs_r) (⟨pk_us, txO_2 _, fun _ => pk_us, SK_up _ (fun j hj => ⟨pk_un (by omega), pk_un (by omega)⟩) hsk9⟩) (by rw [← psh_1 (by omega)]; exact hs_8) (by rw [psh_1 (by omega)]) (by omega) (hM) (lv_sub hl [3, 0] rfl)
            · skip
              refine lv_aload_n hx hb d_Mo_body_70 rfl (lv_at hl 0 rfl) ?_
              refine lv_iconst (v := 4) hx hb d_Mo_body_71 (by decide) ?_
              refine mo_callv (np := 1) hC hK hM (c_Mo_fails l D cT ad I1 J a1 g 4) rfl ⟨wl_Mo_145, wi_Mo_fails, ws_Mo_fails, wc_Mo_fails, wn_Mo⟩ ⟨by decide, by decide, by decide +kernel⟩ ⟨Nat.le_of_ble_eq_true rfl, Nat.le_of_ble_eq_true rfl⟩ hl.1 rfl (rest := []) rfl (Nat.le_of_ble_eq_true rfl) ⟨Nat.zero_le _, Nat.zero_le _⟩ d_Mo_body_72 (fun I20 J20 a20 g20 H locs hp20 hM => ?_)
              cases hp20
              rw [if_pos (show I1 8 = 0 from hw0)] at hM
              refine lv_goto (tgt := 88) hx hb d_Mo_body_75 (by decide) ?_
              refine lv_aload_n hx hb d_Mo_body_88 rfl (lv_at hl 0 rfl) ?_
              refine mo_geti hC hK hM 8 wf_Mo_95 rfl rfl (by decide) (v := 4) (rfl) d_Mo_body_89 ?_
              refine lv_if_ne (tgt := 53) hx hb d_Mo_body_92 (by decide) (fun h21 => ?_) (fun h21 => ?_)
              · skip
                exact ih53 n 4 s1.t.2.1 s1 ((w, ov) :: R) (upd (upd I1 8 4) 9 (I1 11)) a1 _ _ _ (by rw [if_neg (by decide)]; rw [if_pos hw9] at hmeas53; omega) (fun q hq => (pk_un (by omega)).trans ((pk_un (by omega)).trans (hfr q hq))) (hFR) (hL11) (rfl) (by omega) (fun _ => ⟨bb_4 hB (by omega), hB.2.1.2.2.1⟩) (fun z => by omega) (hM) (lv_sub hl [0, 1] rfl)
              · exact absurd h21 (by decide)
    exact hL53 _ n0 (w3 (tok tl tb 0)) ((tok tl tb 0).2.1) (s00 tl tb) ([(1, 0)]) I2 (va_up (va_up (va_up a 1 (upd (a 1) b 0)) 14 (upd (a 14) 1 1)) 15 (upd (a 15) 1 (-4))) _ _ _ (Nat.lt_succ_self _) (fun q hq => (hp2.1 q hq).trans ((pk_un (by omega)).trans (pk_un (by omega)))) (⟨fun k _ h1 h2 => (va_up_ne _ _ (by omega)).trans ((va_up_ne _ _ (by omega)).trans (va_up_ne _ _ (by omega))), fun j hj => pk_un (by omega), fun _ _ => ⟨rfl, rfl⟩, fun _ _ => rfl⟩) (by show 1 ≤ 11; omega) (TKI_w hp2.2) (w3_4 _) (fun z => by have z3 := w3_y z; rw [z3.2]; exact ⟨if_pos z3.1, (hp2.2.2.1 z3.1).2⟩) (fun z => bb_0 hT.2.1 htb hn0 hp2.2 (w3_n z) (by show upd (a 1) b 0 b = 0; exact pk_us) rfl) (hM) (lv_sub hl [1, 0] rfl)
  · skip
    refine lv_bipush (v := (-3)) hx hb d_Mo_body_9 (by decide) ?_
    exact hret _ _ _ _ _ _ _ _ _ d_Mo_body_11 hM (⟨rfl, rfl, by rw [if_neg (by omega)]; exact ⟨rfl, rfl, rfl⟩⟩)
