/-! the class: a text, with what it tells -/
theorem FT_sub {w w' : va_W} {kd : Nat → Nat} {nb : Nat → Nat → Int} {d k r : Nat} (h : ∀ x ∈ w, x ∈ w') (hf : FT w kd nb d k r) : FT w' kd nb d k r := FT_mono (fun i q hq => List.getElem?_of_mem (h q (List.mem_of_getElem? hq))) d k r hf
theorem FT_cong {w : va_W} {kd kd' ab : Nat → Nat} {nb nb' : Nat → Nat → Int} : ∀ (d k r e : Nat), WT kd ab d k e → (∀ j, k ≤ j → j < e → kd' j = kd j ∧ nb' j = nb j) → FT w kd nb d k r → FT w kd' nb' d k r
  | 0, _, _, _, h, _, _ => h.elim
  | d + 1, k, r, e, hw, hc, hf => by
    have hlt := WT_lt _ _ _ hw
    obtain ⟨e1, e2⟩ := hc k (Nat.le_refl _) hlt
    unfold FT at hf ⊢
    rw [e1, e2]
    rcases hw with ⟨g0, g⟩ | ⟨g0, mm, g1, g2, g3, g4⟩ | ⟨g0, g1, g3⟩
    · rcases hf with h | h | h | ⟨h, _⟩ | ⟨h, _⟩
      · exact Or.inl h
      · exact Or.inr (Or.inl h)
      · exact Or.inr (Or.inr (Or.inl h))
      · omega
      · omega
    · rcases hf with ⟨h, _⟩ | ⟨h, _⟩ | ⟨h, _⟩ | ⟨h, i, r1, r2, h1, h2, h3⟩ | ⟨h, _⟩
      · omega
      · omega
      · omega
      · have a1 := WT_lt _ _ _ g1
        have a2 := WT_lt _ _ _ g2
        have n1 := WT_nx _ _ _ g1
        have n2 := WT_nx _ _ _ (WT_cong (kd' := kd') (ab' := ab) d _ _ (fun j j1 j2 => (hc j (by omega) (by omega)).1) (fun j j1 j2 => rfl) g1)
        rw [n1] at h3
        refine Or.inr (Or.inr (Or.inr (Or.inl ⟨h, i, r1, r2, h1, FT_cong d _ _ _ g1 (fun j j1 j2 => hc j (by omega) (by omega)) h2, ?_⟩)))
        rw [n2]
        exact FT_cong d _ _ _ g2 (fun j j1 j2 => hc j (by omega) (by omega)) h3
      · omega
    · rcases hf with ⟨h, _⟩ | ⟨h, _⟩ | ⟨h, _⟩ | ⟨h, _⟩ | ⟨h, i, r1, h1, h2⟩
      · omega
      · omega
      · omega
      · omega
      · exact Or.inr (Or.inr (Or.inr (Or.inr ⟨h, i, r1, h1, FT_cong d _ _ _ g1 (fun j j1 j2 => hc j (by omega) (by omega)) h2⟩)))
section RTP
variable {tl : Nat} {tb : Nat → Nat}
def RTI (tl : Nat) (tb : Nat → Nat) (r : Nat) (s0 : PS) (I : Nat → Int32) (i wr pl : Nat) (t : TT) (nb : Nat → Int) (I1 f1 : Nat → Int32) : Prop := (∀ q, ¬ (31 ≤ q ∧ q ≤ 37) → I1 q = I q) ∧ I1 35 = nI (s0.many + 1) ∧ I1 36 = nI wr ∧ wr ≤ 4 ∧ (0 < wr → numP tl tb r (nOf r) 0 (tok tl tb s0.t.2.2.1) (fun _ => 0) = .inl (wr, pl) ∧ I1 37 = nI pl) ∧ (wr = 0 → numP tl tb r (nOf r) 0 (tok tl tb s0.t.2.2.1) (fun _ => 0) = numP tl tb r (nOf r - i) i t nb ∧ TKh I1 t ∧ TKo tl tb t ∧ (t.1 ≤ 2 ∧ -10000 ≤ t.2.2.2 ∧ t.2.2.2 ≤ 10000) ∧ (∀ j, -20 ≤ nb j ∧ nb j ≤ 20) ∧ ∀ j, j < 6 → f1 j = iI (nb j))
theorem rt_init {r : Nat} {s0 : PS} {I I2 : Nat → Int32} (h4 : tl ≤ 160) (htb : ∀ j, j < tl → tb j < 256) (hto : TKo tl tb s0.t) (hf : ∀ q, ¬ (31 ≤ q ∧ q ≤ 37) ∨ q = 35 → I2 q = upd I 35 (nI (s0.many + 1)) q) (ht : TKC I2 (tok tl tb s0.t.2.2.1)) : RTI tl tb r s0 I 0 (w3 (tok tl tb s0.t.2.2.1)) (tok tl tb s0.t.2.2.1).2.1 (tok tl tb s0.t.2.2.1) (fun _ => 0) I2 (fun _ => 0) := by
  refine ⟨fun q hq => (hf q (Or.inl hq)).trans (pk_un (by omega)), (hf 35 (Or.inr rfl)).trans pk_us, TKC_w ht, w3_4 _, fun z => ?_, fun z => ?_⟩
  · have z3 := w3_y z
    rw [z3.2]
    exact ⟨numP_3 z3.1 _ _, (ht.2.1 z3.1).2⟩
  · have z2 := w3_n z
    have z3 := tok_b (tl := tl) (tb := tb) (by omega) htb s0.t.2.2.1
    exact ⟨rfl, TKC_g ht z2, (tok_ok (by omega) hto.2.1).1, by omega, (fun _ => by show -20 ≤ (0 : Int) ∧ (0 : Int) ≤ 20; omega), fun _ _ => rfl⟩
theorem rt_fail {r : Nat} {s0 : PS} {I I1 f1 f2 : Nat → Int32} {i wr pl : Nat} {t : TT} {nb : Nat → Int} (h : RTI tl tb r s0 I i wr pl t nb I1 f1) (hw : 0 < wr) : RTI tl tb r s0 I (i + 1) wr pl t nb I1 f2 := ⟨h.1, h.2.1, h.2.2.1, h.2.2.2.1, h.2.2.2.2.1, fun z => by omega⟩
theorem rt_step {r : Nat} {s0 : PS} {I I1 I2 f1 : Nat → Int32} {i wr pl : Nat} {t : TT} {nb : Nat → Int} {rr : Int32} (h4 : tl ≤ 160) (htb : ∀ j, j < tl → tb j < 256) (h : RTI tl tb r s0 I i wr pl t nb I1 f1) (hw : wr = 0) (hi : i < nOf r) (hq : rnQ tl tb t (lowN r i nb) I1 rr I2) : ∃ (wr' pl' : Nat) (t' : TT) (nb' : Nat → Int), RTI tl tb r s0 I (i + 1) wr' pl' t' nb' I2 (upd f1 i rr) := by
  obtain ⟨a1, a2, a3, a4, a5, a6⟩ := h
  obtain ⟨b1, b2, b3, b4, b5, b6⟩ := a6 hw
  obtain ⟨q1, q2, q3, q4⟩ := hq
  have f0 : ∀ q, ¬ (31 ≤ q ∧ q ≤ 37) → I2 q = I q := fun q hq => (q1 q (Or.inl hq)).trans (a1 q hq)
  have f5 : I2 35 = nI (s0.many + 1) := (q1 35 (Or.inr rfl)).trans a2
  have hlo := lowN_b (r := r) (i := i) b5
  by_cases c2 : t.1 = 2
  · by_cases c3 : lowN r i nb ≤ t.2.2.2 ∧ t.2.2.2 ≤ 20
    · obtain ⟨e1, e2⟩ := q4 c2 c3
      have hS := b1.trans (numP_s hi c2 c3)
      refine ⟨w3 (tok tl tb t.2.2.1), (tok tl tb t.2.2.1).2.1, tok tl tb t.2.2.1, fun j => if j = i then t.2.2.2 else nb j, f0, f5, TKC_w e2, w3_4 _, fun z => ?_, fun z => ?_⟩
      · have z3 := w3_y z
        rw [z3.2]
        exact ⟨hS.trans (numP_3 z3.1 _ _), (e2.2.1 z3.1).2⟩
      · have z2 := w3_n z
        have z3 := tok_b (tl := tl) (tb := tb) (by omega) htb t.2.2.1
        refine ⟨hS, TKC_g e2 z2, (tok_ok (by omega) b3.2.1).1, by omega, fun j => ?_, fun j hj => ?_⟩
        · show -20 ≤ (if j = i then t.2.2.2 else nb j) ∧ (if j = i then t.2.2.2 else nb j) ≤ 20
          by_cases e : j = i
          · rw [if_pos e]; omega
          · rw [if_neg e]; exact b5 j
        · show upd f1 i rr j = iI (if j = i then t.2.2.2 else nb j)
          by_cases e : j = i
          · rw [if_pos e, e, pk_us, e1]
          · rw [if_neg e, pk_un e]; exact b6 j hj
    · obtain ⟨e1, e2, e3⟩ := q3 c2 c3
      exact ⟨3, t.2.1, t, nb, f0, f5, e2, by omega, fun _ => ⟨b1.trans (numP_4 hi c2 c3), e3⟩, fun z => by omega⟩
  · obtain ⟨e1, e2, e3⟩ := q2 c2
    exact ⟨2, t.2.1, t, nb, f0, f5, e2, by omega, fun _ => ⟨b1.trans (numP_2 hi (by omega) c2), e3⟩, fun z => by omega⟩
theorem rt_of {r ov : Nat} {s0 : PS} {I I1 f1 : Nat → Int32} {i wr pl : Nat} {t : TT} {nb : Nat → Int} (h : RTI tl tb r s0 I i wr pl t nb I1 f1) (h1 : s0.t.1 = 1) (hr : rul s0 = r) (hw : 0 < wr) : oneP tl tb ov s0 = .inl (wr, pl) := by
  unfold oneP
  rw [if_neg (fun z => z h1), hr, (h.2.2.2.2.1 hw).1]
theorem rt_os {r ov : Nat} {s0 : PS} {I I1 f1 : Nat → Int32} {i wr pl : Nat} {t : TT} {nb : Nat → Int} (h : RTI tl tb r s0 I i wr pl t nb I1 f1) (h1 : s0.t.1 = 1) (hr : rul s0 = r) (hw : wr = 0) (hi : ¬ i < nOf r) : oneP tl tb ov s0 = .inr (putR s0 ov (t, nb)) := by
  obtain ⟨b1, b2, b3, b4, b5, b6⟩ := h.2.2.2.2.2 hw
  unfold oneP
  rw [if_neg (fun z => z h1), hr, b1, numP_e (by omega) (by omega)]
def rtQ (tl : Nat) (tb : Nat → Nat) (d ov : Nat) (s0 : PS) (X : CX) (I : Nat → Int32) (o : Option Nat) (u : va_W × (Nat → Int32)) : Prop := (∀ q, ¬ (31 ≤ q ∧ q ≤ 37) → u.2 q = I q) ∧ (∃ G, u.1 = X.2.2.2.2 ++ G) ∧ (∀ f, prs tl tb d ov s0 = .inl f → o = none ∧ u.2 36 = nI f.1 ∧ u.2 37 = nI f.2 ∧ 0 < f.1 ∧ f.1 ≤ 4) ∧ (∀ s1, prs tl tb d ov s0 = .inr s1 → ∃ r, o = some r ∧ FT u.1 s1.kd s1.nb d s0.many r ∧ u.2 35 = nI s1.many ∧ TKh u.2 s1.t)
theorem rtQ_f {d ov : Nat} {s0 : PS} {X : CX} {I I' : Nat → Int32} {F : va_W} {f : FA} (hp : prs tl tb d ov s0 = .inl f) (hfr : ∀ q, ¬ (31 ≤ q ∧ q ≤ 37) → I' q = I q) (hG : ∃ G, F = X.2.2.2.2 ++ G) (h36 : I' 36 = nI f.1) (h37 : I' 37 = nI f.2) (h1 : 0 < f.1 ∧ f.1 ≤ 4) : rtQ tl tb d ov s0 X I none (F, I') := ⟨hfr, hG, (fun f' hf => by rw [hp] at hf; cases hf; exact ⟨rfl, h36, h37, h1⟩), fun s1 hs => by rw [hp] at hs; cases hs⟩
theorem rtQ_s {d ov : Nat} {s0 s1 : PS} {X : CX} {I I' : Nat → Int32} {F : va_W} {q : Nat} (hp : prs tl tb d ov s0 = .inr s1) (hfr : ∀ q, ¬ (31 ≤ q ∧ q ≤ 37) → I' q = I q) (hG : ∃ G, F = X.2.2.2.2 ++ G) (hF : FT F s1.kd s1.nb d s0.many q) (h35 : I' 35 = nI s1.many) (ht : TKh I' s1.t) : rtQ tl tb d ov s0 X I (some q) (F, I') := ⟨hfr, hG, (fun f hf => by rw [hp] at hf; cases hf), fun s2 hs => by rw [hp] at hs; cases hs; exact ⟨q, rfl, hF, h35, ht⟩⟩
theorem at_mem {w : va_W} {x : Nat × va_E} (h : x ∈ w) : ∃ i : Nat, w[i]? = some x := List.getElem?_of_mem h
theorem ft_ball {w : va_W} {d ov q : Nat} {s0 : PS} {t : TT} {nb : Nat → Int} {f1 : Nat → Int32} (hr : rul s0 = 0) (hc : (q, .inr (0, [.int (f1 0), .int (f1 1), .int (f1 2), .int (f1 3)])) ∈ w) (hf : ∀ j, j < 6 → f1 j = iI (nb j)) : FT w (putR s0 ov (t, nb)).kd (putR s0 ov (t, nb)).nb (d + 1) s0.many q := by
  have k1 : (putR s0 ov (t, nb)).kd s0.many = rul s0 := if_pos rfl
  have k2 : (putR s0 ov (t, nb)).nb s0.many = nb := if_pos rfl
  unfold FT
  rw [k1, k2, hr, ← hf 0 (by omega), ← hf 1 (by omega), ← hf 2 (by omega), ← hf 3 (by omega)]
  exact Or.inl ⟨rfl, at_mem hc⟩
theorem ft_box {w : va_W} {d ov q : Nat} {s0 : PS} {t : TT} {nb : Nat → Int} {f1 : Nat → Int32} (hr : rul s0 = 1) (hc : (q, .inr (2, [.int (f1 0), .int (f1 1), .int (f1 2), .int (f1 3), .int (f1 4), .int (f1 5)])) ∈ w) (hf : ∀ j, j < 6 → f1 j = iI (nb j)) : FT w (putR s0 ov (t, nb)).kd (putR s0 ov (t, nb)).nb (d + 1) s0.many q := by
  have k1 : (putR s0 ov (t, nb)).kd s0.many = rul s0 := if_pos rfl
  have k2 : (putR s0 ov (t, nb)).nb s0.many = nb := if_pos rfl
  unfold FT
  rw [k1, k2, hr, ← hf 0 (by omega), ← hf 1 (by omega), ← hf 2 (by omega), ← hf 3 (by omega), ← hf 4 (by omega), ← hf 5 (by omega)]
  exact Or.inr (Or.inl ⟨rfl, at_mem hc⟩)
theorem ft_plane {w : va_W} {d ov q : Nat} {s0 : PS} {t : TT} {nb : Nat → Int} {f1 : Nat → Int32} (hr : rul s0 = 2) (hc : (q, .inr (7, [.int (f1 0), .int (f1 1), .int (f1 2), .int (f1 3)])) ∈ w) (hf : ∀ j, j < 6 → f1 j = iI (nb j)) : FT w (putR s0 ov (t, nb)).kd (putR s0 ov (t, nb)).nb (d + 1) s0.many q := by
  have k1 : (putR s0 ov (t, nb)).kd s0.many = rul s0 := if_pos rfl
  have k2 : (putR s0 ov (t, nb)).nb s0.many = nb := if_pos rfl
  unfold FT
  rw [k1, k2, hr, ← hf 0 (by omega), ← hf 1 (by omega), ← hf 2 (by omega), ← hf 3 (by omega)]
  exact Or.inr (Or.inr (Or.inl ⟨rfl, at_mem hc⟩))
theorem ft_one {w w0 : va_W} {d ov q r1 : Nat} {s0 s2 : PS} {t : TT} {nb : Nat → Int} {f1 : Nat → Int32} (h4 : tl ≤ 400) (ht : TKo tl tb t) (hr : 6 ≤ rul s0 ∧ rul s0 ≤ 9) (hp : prs tl tb d s0.many (putR s0 ov (t, nb)) = .inr s2) (hF : FT w0 s2.kd s2.nb d (putR s0 ov (t, nb)).many r1) (hs : ∀ x ∈ w0, x ∈ w) (hc : (q, .inr (6, [.int (nI (rul s0)), .int (f1 0), .int (f1 1), .int (f1 2), .ref r1])) ∈ w) (hf : ∀ j, j < 6 → f1 j = iI (nb j)) : FT w s2.kd s2.nb (d + 1) s0.many q := by
  have k1 : (putR s0 ov (t, nb)).kd s0.many = rul s0 := if_pos rfl
  have k2 : (putR s0 ov (t, nb)).nb s0.many = nb := if_pos rfl
  obtain ⟨_, a2, _⟩ := prs_ok h4 d s0.many _ s2 ht hp
  have e := a2 s0.many (Nat.lt_succ_self _)
  unfold FT
  rw [e.1, e.2.1, k1, k2, ← hf 0 (by omega), ← hf 1 (by omega), ← hf 2 (by omega)]
  obtain ⟨i, hi⟩ := at_mem hc
  exact Or.inr (Or.inr (Or.inr (Or.inr ⟨hr, i, r1, hi, FT_sub hs hF⟩)))
theorem ft_two {w w0 : va_W} {d ov q r1 r2 : Nat} {s0 s2 s3 : PS} {t : TT} {nb : Nat → Int} (h4 : tl ≤ 400) (ht : TKo tl tb t) (hr : 3 ≤ rul s0 ∧ rul s0 ≤ 5) (hp : prs tl tb d s0.many (putR s0 ov (t, nb)) = .inr s2) (hp2 : prs tl tb d s0.many s2 = .inr s3) (hF : FT w0 s2.kd s2.nb d (putR s0 ov (t, nb)).many r1) (hs : ∀ x ∈ w0, x ∈ w) (hF2 : FT w s3.kd s3.nb d s2.many r2) (hc : (q, .inr (5, [.int (nI (rul s0)), .ref r1, .ref r2])) ∈ w) : FT w s3.kd s3.nb (d + 1) s0.many q := by
  have k1 : (putR s0 ov (t, nb)).kd s0.many = rul s0 := if_pos rfl
  obtain ⟨a1, a2, _, _, _, a6, _⟩ := prs_ok h4 d s0.many _ s2 ht hp
  obtain ⟨b1, b2, _⟩ := prs_ok h4 d s0.many s2 s3 a6 hp2
  have km : (putR s0 ov (t, nb)).many = s0.many + 1 := rfl
  rw [km] at a1 a2 hF
  have l1 := WT_lt _ _ _ a1
  have e := a2 s0.many (Nat.lt_succ_self _)
  have e2 := b2 s0.many (by omega)
  have hw3 : WT s3.kd s3.ab d (s0.many + 1) s2.many := WT_cong d _ _ (fun j g1 g2 => (b2 j (by omega)).1) (fun j g1 g2 => (b2 j (by omega)).2.2) a1
  unfold FT
  rw [e2.1, e.1, k1, WT_nx _ _ _ hw3]
  obtain ⟨i, hi⟩ := at_mem hc
  exact Or.inr (Or.inr (Or.inr (Or.inl ⟨hr, i, r1, r2, hi, FT_sub hs (FT_cong d _ _ _ a1 (fun j g1 g2 => ⟨(b2 j (by omega)).1, (b2 j (by omega)).2.1⟩) hF), hF2⟩)))
theorem pm1 {F G : va_W} {x : Nat × va_E} : ((F ++ [x]) ++ G).Perm ((F ++ G) ++ [x]) := by
  rw [List.append_assoc, List.append_assoc]
  exact List.Perm.append_left _ List.perm_append_comm
theorem pm2 {F G G2 : va_W} {x : Nat × va_E} : (((F ++ [x]) ++ G) ++ G2).Perm ((F ++ (G ++ G2)) ++ [x]) := by
  rw [List.append_assoc (F ++ [x]) G G2]
  exact pm1
end RTP
def RTc (l : Launch) (D : va_G) (cT : Nat → ClassId) (adK adV : Nat → Nat) (N0 tl : Nat) (tb : Nat → Nat) (d : Nat) : Prop := ∀ (X : CX) (I : Nat → Int32) (a : Nat → Nat → Int32) (sz ov : Nat) (s0 : PS), (∀ q, CA X q → N0 ≤ q) → CTp I a tl tb → TKh I s0.t → I 35 = nI s0.many → TKo tl tb s0.t → s0.t.1 ≤ 3 → CAq l D cT X y_Rd_readText b_Rd_readText 6 (some (.object "SignSolids$Form")) (7 + d) (170 + 25 * d) (2 * cnt tl tb d ov s0) (12 * cnt tl tb d ov s0) [.ref (X.1 3), .int (nI (11 - d))] I a sz adK adV N0 (rtQ tl tb d ov s0 X I)

theorem prs_t3 {tl : Nat} {tb : Nat → Nat} (h4 : tl ≤ 400) (htb : ∀ j, j < tl → tb j < 256) : ∀ (d ov : Nat) (s s' : PS), s.t.1 ≤ 3 → prs tl tb d ov s = .inr s' → s'.t.1 ≤ 3
  | 0, _, _, _, _, h => by cases h
  | d + 1, ov, s, s', h3, h => by
    cases ho : oneP tl tb ov s with
    | inl f => rw [prs_f ho] at h; cases h
    | inr s1 =>
      have h1 : s1.t.1 ≤ 3 := by
        unfold oneP at ho
        by_cases c : s.t.1 = 1
        · rw [if_neg (fun z => z c)] at ho
          cases hn : numP tl tb (rul s) (nOf (rul s)) 0 (tok tl tb s.t.2.2.1) (fun _ => 0) with
          | inl f => rw [hn] at ho; cases ho
          | inr q =>
            rw [hn] at ho
            cases ho
            have := numP_b h4 htb _ _ _ _ q (tok_b h4 htb _).1 hn
            show q.1.1 ≤ 3
            omega
        · rw [if_pos c] at ho; cases ho
      by_cases c3 : rul s < 3
      · rw [prs_0 ho c3] at h; cases h; exact h1
      · by_cases c6 : rul s < 6
        · rw [prs_2 ho c3 c6] at h
          cases hp : prs tl tb d s.many s1 with
          | inl f => rw [hp] at h; cases h
          | inr s2 =>
            rw [hp] at h
            exact prs_t3 h4 htb d _ _ _ (prs_t3 h4 htb d _ _ _ h1 hp) h
        · rw [prs_1 ho c6] at h
          exact prs_t3 h4 htb d _ _ _ h1 h
theorem cnt_pos {tl : Nat} {tb : Nat → Nat} {d ov : Nat} {s : PS} (h : s.t.1 = 1) : 1 ≤ cnt tl tb (d + 1) ov s := by
  rw [cnt]
  rw [if_neg (fun z => z h)]
  omega
set_option maxHeartbeats 600000 in
set_option maxRecDepth 100000 in
theorem rt_succ (l : Launch) (D : va_G) (cT : Nat → ClassId) (adK adV : Nat → Nat) (N0 tl : Nat) (tb : Nat → Nat) (d : Nat) (hd : d ≤ 9) (ih : d ≤ 10 → RTc l D cT adK adV N0 tl tb d) : RTc l D cT adK adV N0 tl tb (d + 1) := by
  intro X I a sz ov s0 hN hT hg h35 hto ht3
  refine ca_entq (own := R_Rd) (by decide) rfl (Nat.le_of_ble_eq_true rfl) ?_
  intro p e s m args below meth c Q hC hK hM hZ hAs hA2 hret ls hl
  have hx := hC.1
  have hb := hC.2.1
  have hAN : ∀ q, cA X sz q → N0 ≤ q := fun q hq => (hA2 q hq).elim (hN q) id
  have htb : ∀ j, j < tl → tb j < 256 := fun j hj => (hT.2.2 j hj).2
  have h160 := hT.2.1
  replace hl : lv_has ls 6 [(0, .ref (X.1 3)), (1, .int (nI (11 - (d + 1))))] := hl
  refine lv_aload_n hx hb d_Rd_readText_0 rfl (lv_at hl 0 rfl) ?_
  refine rd_get hC in_Rd hK hM.1 3 (cw_he (by omega) (cE_3)) rfl 6 (by decide) wf_Rd_27 rfl (v := .int 0) (congrArg (fun z : Int32 => some (Value.int z)) (hg.1)) d_Rd_readText_1 ?_
  refine lv_if_ne (tgt := 22) hx hb d_Rd_readText_4 (by decide) (fun h1 => ?_) (fun h1 => ?_)
  · exact absurd h1 (by decide)
  · skip
    refine lv_iload_n hx hb d_Rd_readText_7 rfl (lv_at hl 1 rfl) ?_
    refine lv_bipush (v := 10) hx hb d_Rd_readText_8 (by decide) ?_
    refine nc_le hx hb (11 - (d + 1)) 10 (by omega) (by omega) d_Rd_readText_10 (tgt := 22) (by decide) (fun h2 => ?_) (fun h2 => ?_)
    · skip
      refine lv_aload_n hx hb d_Rd_readText_22 rfl (lv_at hl 0 rfl) ?_
      refine rd_get hC in_Rd hK hM.1 3 (cw_he (by omega) (cE_3)) rfl 6 (by decide) wf_Rd_27 rfl (v := .int 0) (congrArg (fun z : Int32 => some (Value.int z)) (hg.1)) d_Rd_readText_23 ?_
      refine lv_if_ne (tgt := 46) hx hb d_Rd_readText_26 (by decide) (fun h3 => ?_) (fun h3 => ?_)
      · exact absurd h3 (by decide)
      · skip
        refine lv_aload_n hx hb d_Rd_readText_29 rfl (lv_at hl 0 rfl) ?_
        refine rd_get hC in_Rd hK hM.1 3 (cw_he (by omega) (cE_3)) rfl 2 (by decide) wf_Rd_15 rfl (v := .int (nI s0.t.1)) (congrArg (fun z : Int32 => some (Value.int z)) (hg.2.2.1)) d_Rd_readText_30 ?_
        refine lv_iconst (v := 1) hx hb d_Rd_readText_33 (by decide) ?_
        refine nc_eq hx hb s0.t.1 1 (by omega) (by omega) d_Rd_readText_34 (tgt := 46) (by decide) (fun h4 => ?_) (fun h4 => ?_)
        · skip
          refine lv_aload_n hx hb d_Rd_readText_46 rfl (lv_at hl 0 rfl) ?_
          refine rd_get hC in_Rd hK hM.1 3 (cw_he (by omega) (cE_3)) rfl 6 (by decide) wf_Rd_27 rfl (v := .int 0) (congrArg (fun z : Int32 => some (Value.int z)) (hg.1)) d_Rd_readText_47 ?_
          refine lv_if_eq (tgt := 55) hx hb d_Rd_readText_50 (by decide) (fun h5 => ?_) (fun h5 => ?_)
          · skip
            have hn1 : s0.t.1 = 1 := by omega
            obtain ⟨r, hr9, hrv⟩ : ∃ r : Nat, r ≤ 9 ∧ s0.t.2.2.2 = (r : Int) := (hto.2.2.1 hn1).2.2.2.2
            have hr34 : I 34 = nI r := by rw [hg.2.2.2.2 (Or.inl hn1), hrv]; rfl
            have hrul : rul s0 = r := by unfold rul; rw [hrv]; rfl
            have hc1 : 1 ≤ cnt tl tb (d + 1) ov s0 := cnt_pos hn1
            refine lv_aload_n hx hb d_Rd_readText_55 rfl (lv_at hl 0 rfl) ?_
            refine rd_get hC in_Rd hK hM.1 3 (cw_he (by omega) (cE_3)) rfl 4 (by decide) wf_Rd_21 rfl (v := .int (nI r)) (congrArg (fun z : Int32 => some (Value.int z)) (hr34)) d_Rd_readText_56 ?_
            refine lv_istore_n (lv' := [(2, .int (nI r)), (0, .ref (X.1 3)), (1, .int (nI (11 - (d + 1))))]) hx hb d_Rd_readText_59 rfl hl (by decide) rfl (fun ls hl => ?_)
            refine lv_aload_n hx hb d_Rd_readText_60 rfl (lv_at hl 1 rfl) ?_
            refine lv_dup hx hb d_Rd_readText_61 rfl ?_
            refine rd_get hC in_Rd hK hM.1 3 (cw_he (by omega) (cE_3)) rfl 5 (by decide) wf_Rd_24 rfl (v := .int (nI s0.many)) (congrArg (fun z : Int32 => some (Value.int z)) (h35)) d_Rd_readText_62 ?_
            refine lv_iconst (v := 1) hx hb d_Rd_readText_65 (by decide) ?_
            refine lv_iadd hx hb d_Rd_readText_66 ?_
            refine topi_eq (nI_add s0.many 1) ?_
            refine co_put hC in_Rd t_Rd t_Rd_ok n_Rd hK hM 3 (by omega) (cE_3) rfl 5 (by decide) wf_Rd_24 rfl rfl (ty := .int) (by decide +kernel) (x := nI (s0.many + 1)) rfl rfl (Nat.le_of_ble_eq_true rfl) (by decide) (rfl) d_Rd_readText_67 (fun H locs hM => ?_)
            replace hM : CO D cT (cA X sz) (XF X (X.2.2.2.2)) (upd I 35 (nI (s0.many + 1))) a s.heap H locs := hM
            refine lv_aload_n hx hb d_Rd_readText_70 rfl (lv_at hl 1 rfl) ?_
            have hm9 := c_Rd_readToken l D cT (XF X (X.2.2.2.2)) (upd I 35 (nI (s0.many + 1))) a adK adV N0 tl s0.t.2.2.1 tb (fun q9 hq9 => hAN q9 (ca_in hM q9 hq9)) hT hg.2.1 hg.1 hto.2.1
            refine cz_callv (np := 0) hC hK hM hZ hAN (k := 3) (by omega) (cE_3) rfl hm9 rfl ⟨wl_Rd_37, wi_Rd_readToken, ws_Rd_readToken, wc_Rd_readToken, wn_Rd⟩ ⟨by decide, by decide, by decide +kernel⟩ ⟨by show _ ≤ 7 + (d + 1); omega, by show _ ≤ 170 + 25 * (d + 1); omega⟩ hl.1 rfl (rest := []) rfl (Nat.le_of_ble_eq_true rfl) ⟨by show _ ≤ 2 * cnt tl tb (d + 1) ov s0; omega, by show _ ≤ 12 * cnt tl tb (d + 1) ov s0; omega⟩ d_Rd_readText_71 (fun I6 a6 H locs hp6 hM => ?_)
            obtain ⟨e1_p6, hf_p6, ht_p6⟩ := hp6
            replace e1_p6 : a6 = a := e1_p6
            cases e1_p6
            refine lv_bipush (v := 6) hx hb d_Rd_readText_74 (by decide) ?_
            refine nm_newi (w := cw cT (XF X X.2.2.2.2) I6 a) (ty := .int) (a0 := (6, .inl (fun _ => 0))) hC rfl wa_int hK 0 rfl hM hAs (fun _ => rfl) (by decide) (N' := 6) rfl (by decide) (by show 0 + 1 ≤ 2 * cnt tl tb (d + 1) ov s0; omega) (by show 0 + 6 ≤ 12 * cnt tl tb (d + 1) ov s0; omega) d_Rd_readText_76 (fun qn H hM => ?_)
            rw [cw_app] at hM
            replace hM : CO D cT (cA X sz) (XF X (X.2.2.2.2 ++ [(qn, .inl (cT 0, 6, .inl (fun _ => 0)))])) I6 a s.heap H locs := hM
            have hno6 := nOf_6 r
            refine lv_astore_n (lv' := [(3, .ref qn), (2, .int (nI r)), (0, .ref (X.1 3)), (1, .int (nI (11 - (d + 1))))]) hx hb d_Rd_readText_78 rfl hl (by decide) rfl (fun ls hl => ?_)
            refine lv_iconst (v := 0) hx hb d_Rd_readText_79 (by decide) ?_
            refine lv_istore (lv' := [(4, .int 0), (3, .ref qn), (2, .int (nI r)), (0, .ref (X.1 3)), (1, .int (nI (11 - (d + 1))))]) hx hb d_Rd_readText_80 hl (by decide) rfl (fun ls hl => ?_)
            have hL144 : ∀ (i : Nat) (wr : Nat) (pl : Nat) (t : TT) (nb : Nat → Int) (I1 : Nat → Int32) (f1 : Nat → Int32) (H : Heap) (locs : List Loc) (ls : Array Slot), (RTI tl tb r s0 I i wr pl t nb I1 f1) → (¬ i < nOf r) → CO D cT (cA X sz) (XF X (X.2.2.2.2 ++ [(qn, .inl (cT 0, 6, .inl f1))])) I1 a s.heap H locs → lv_has ls 6 [(0, .ref (X.1 3)), (1, .int (nI (11 - (d + 1)))), (2, .int (nI r)), (3, .ref qn)] → W p l e (rmA (7 + (d + 1)) (170 + 25 * (d + 1)) (2 * cnt tl tb (d + 1) ov s0) (12 * cnt tl tb (d + 1) ov s0)) s m args below meth c H locs (1) (6) Q (F0 m 144 ls []) := by
              intro i wr pl t nb I1 f1 H locs ls hR hi9 hM hl
              by_cases hw9 : wr = 0
              · skip
                obtain ⟨hb1, hb2, hb3, hb4, hb5, hb6⟩ := hR.2.2.2.2.2 hw9
                have ho := rt_os (ov := ov) hR hn1 hrul hw9 hi9
                have h36 : I1 36 = 0 := hb2.1
                by_cases hr3 : r < 3
                · skip
                  have hcn := cnt_0 (d := d) (ov := ov) hn1 ho (by rw [hrul]; exact hr3)
                  rcases (show r = 0 ∨ r = 1 ∨ r = 2 by omega) with hr0 | hr0 | hr0
                  · rw [hr0] at hl hrul
                    refine lv_iload_n hx hb d_Rd_readText_144 rfl (lv_at hl 2 rfl) ?_
                    refine lv_iconst (v := 3) hx hb d_Rd_readText_145 (by decide) ?_
                    refine nc_lt hx hb 0 3 (by omega) (by omega) d_Rd_readText_146 (tgt := 159) (by decide) (fun h7 => ?_) (fun h7 => ?_)
                    · skip
                      refine lv_null hx hb d_Rd_readText_159 ?_
                      refine lv_astoreN (lv' := [(4, .null), (0, .ref (X.1 3)), (1, .int (nI (11 - (d + 1)))), (2, .int (nI 0)), (3, .ref qn)]) hx hb d_Rd_readText_160 hl (by decide) rfl (fun ls hl => ?_)
                      refine lv_iload_n hx hb d_Rd_readText_162 rfl (lv_at hl 3 rfl) ?_
                      refine st_calli (np := 1) hC (c_Rd_isPair l 0 (by omega)) ⟨wl_Rd_59, wt_Rd_isPair, wc_Rd_isPair, wn_Rd⟩ ⟨by decide, by decide, by decide +kernel⟩ ⟨by show _ ≤ 7 + (d + 1); omega, by show _ ≤ 170 + 25 * (d + 1); omega⟩ hl.1 rfl (rest := []) rfl (Nat.le_of_ble_eq_true rfl) ⟨by show _ ≤ 2 * cnt tl tb (d + 1) ov s0; omega, by show _ ≤ 12 * cnt tl tb (d + 1) ov s0; omega⟩ d_Rd_readText_163 (fun rr hrr => ?_)
                      subst hrr
                      refine bz_eq (tgt := 179) hx hb d_Rd_readText_166 (by decide) (fun h8 => ?_) (fun h8 => ?_)
                      · skip
                        refine lv_null hx hb d_Rd_readText_179 ?_
                        refine lv_astoreN (lv' := [(5, .null), (4, .null), (0, .ref (X.1 3)), (1, .int (nI (11 - (d + 1)))), (2, .int (nI 0)), (3, .ref qn)]) hx hb d_Rd_readText_180 hl (by decide) rfl (fun ls hl => ?_)
                        refine lv_aload_n hx hb d_Rd_readText_182 rfl (lv_at hl 2 rfl) ?_
                        refine rd_get hC in_Rd hK hM.1 3 (cw_he (by omega) (cE_3)) rfl 6 (by decide) wf_Rd_27 rfl (v := .int 0) (congrArg (fun z : Int32 => some (Value.int z)) (h36)) d_Rd_readText_183 ?_
                        refine lv_if_ne (tgt := 201) hx hb d_Rd_readText_186 (by decide) (fun h9 => ?_) (fun h9 => ?_)
                        · exact absurd h9 (by decide)
                        · skip
                          refine lv_iload_n hx hb d_Rd_readText_189 rfl (lv_at hl 4 rfl) ?_
                          refine lv_aload_n hx hb d_Rd_readText_190 rfl (lv_at hl 5 rfl) ?_
                          refine lv_aloadN hx hb d_Rd_readText_191 (lv_at hl 1 rfl) ?_
                          refine lv_aloadN hx hb d_Rd_readText_193 (lv_at hl 0 rfl) ?_
                          refine fo_form (np := 4) hC hK hM hAs (c_Rd_formOf_0 l D cT H.size qn f1) ⟨wl_Rd_63, wt_Rd_formOf, wc_Rd_formOf, wn_Rd⟩ ⟨by decide, by decide, by decide +kernel⟩ ⟨by show _ ≤ 7 + (d + 1); omega, by show _ ≤ 170 + 25 * (d + 1); omega⟩ hl.1 rfl (rest := []) rfl (Nat.le_of_ble_eq_true rfl) ⟨by show _ ≤ 2 * cnt tl tb (d + 1) ov s0; omega, by show _ ≤ 12 * cnt tl tb (d + 1) ov s0; omega⟩ d_Rd_readText_195 (fun o w1 H locs hp hM => ?_)
                          obtain ⟨q, rfl, rfl⟩ := hp
                          refine lv_goto (tgt := 202) hx hb d_Rd_readText_198 (by decide) ?_
                          exact hret _ _ _ (some q) _ _ _ _ _ _ d_Rd_readText_202 rfl hM (by omega) (by omega) (rtQ_s (prs_0 ho (by rw [hrul]; decide)) hR.1 ⟨_, rfl⟩ (ft_ball hrul (List.mem_append_right _ (List.mem_cons_of_mem _ List.mem_cons_self)) hb6) hR.2.1 hb2)
                      · first | contradiction | (exfalso; omega)
                    · first | contradiction | (exfalso; omega)
                  · rw [hr0] at hl hrul
                    refine lv_iload_n hx hb d_Rd_readText_144 rfl (lv_at hl 2 rfl) ?_
                    refine lv_iconst (v := 3) hx hb d_Rd_readText_145 (by decide) ?_
                    refine nc_lt hx hb 1 3 (by omega) (by omega) d_Rd_readText_146 (tgt := 159) (by decide) (fun h10 => ?_) (fun h10 => ?_)
                    · skip
                      refine lv_null hx hb d_Rd_readText_159 ?_
                      refine lv_astoreN (lv' := [(4, .null), (0, .ref (X.1 3)), (1, .int (nI (11 - (d + 1)))), (2, .int (nI 1)), (3, .ref qn)]) hx hb d_Rd_readText_160 hl (by decide) rfl (fun ls hl => ?_)
                      refine lv_iload_n hx hb d_Rd_readText_162 rfl (lv_at hl 3 rfl) ?_
                      refine st_calli (np := 1) hC (c_Rd_isPair l 1 (by omega)) ⟨wl_Rd_59, wt_Rd_isPair, wc_Rd_isPair, wn_Rd⟩ ⟨by decide, by decide, by decide +kernel⟩ ⟨by show _ ≤ 7 + (d + 1); omega, by show _ ≤ 170 + 25 * (d + 1); omega⟩ hl.1 rfl (rest := []) rfl (Nat.le_of_ble_eq_true rfl) ⟨by show _ ≤ 2 * cnt tl tb (d + 1) ov s0; omega, by show _ ≤ 12 * cnt tl tb (d + 1) ov s0; omega⟩ d_Rd_readText_163 (fun rr hrr => ?_)
                      subst hrr
                      refine bz_eq (tgt := 179) hx hb d_Rd_readText_166 (by decide) (fun h11 => ?_) (fun h11 => ?_)
                      · skip
                        refine lv_null hx hb d_Rd_readText_179 ?_
                        refine lv_astoreN (lv' := [(5, .null), (4, .null), (0, .ref (X.1 3)), (1, .int (nI (11 - (d + 1)))), (2, .int (nI 1)), (3, .ref qn)]) hx hb d_Rd_readText_180 hl (by decide) rfl (fun ls hl => ?_)
                        refine lv_aload_n hx hb d_Rd_readText_182 rfl (lv_at hl 2 rfl) ?_
                        refine rd_get hC in_Rd hK hM.1 3 (cw_he (by omega) (cE_3)) rfl 6 (by decide) wf_Rd_27 rfl (v := .int 0) (congrArg (fun z : Int32 => some (Value.int z)) (h36)) d_Rd_readText_183 ?_
                        refine lv_if_ne (tgt := 201) hx hb d_Rd_readText_186 (by decide) (fun h12 => ?_) (fun h12 => ?_)
                        · exact absurd h12 (by decide)
                        · skip
                          refine lv_iload_n hx hb d_Rd_readText_189 rfl (lv_at hl 4 rfl) ?_
                          refine lv_aload_n hx hb d_Rd_readText_190 rfl (lv_at hl 5 rfl) ?_
                          refine lv_aloadN hx hb d_Rd_readText_191 (lv_at hl 1 rfl) ?_
                          refine lv_aloadN hx hb d_Rd_readText_193 (lv_at hl 0 rfl) ?_
                          refine fo_form (np := 4) hC hK hM hAs (c_Rd_formOf_1 l D cT H.size qn f1) ⟨wl_Rd_63, wt_Rd_formOf, wc_Rd_formOf, wn_Rd⟩ ⟨by decide, by decide, by decide +kernel⟩ ⟨by show _ ≤ 7 + (d + 1); omega, by show _ ≤ 170 + 25 * (d + 1); omega⟩ hl.1 rfl (rest := []) rfl (Nat.le_of_ble_eq_true rfl) ⟨by show _ ≤ 2 * cnt tl tb (d + 1) ov s0; omega, by show _ ≤ 12 * cnt tl tb (d + 1) ov s0; omega⟩ d_Rd_readText_195 (fun o w1 H locs hp hM => ?_)
                          obtain ⟨q, rfl, rfl⟩ := hp
                          refine lv_goto (tgt := 202) hx hb d_Rd_readText_198 (by decide) ?_
                          exact hret _ _ _ (some q) _ _ _ _ _ _ d_Rd_readText_202 rfl hM (by omega) (by omega) (rtQ_s (prs_0 ho (by rw [hrul]; decide)) hR.1 ⟨_, rfl⟩ (ft_box hrul (List.mem_append_right _ (List.mem_cons_of_mem _ List.mem_cons_self)) hb6) hR.2.1 hb2)
                      · first | contradiction | (exfalso; omega)
                    · first | contradiction | (exfalso; omega)
                  · rw [hr0] at hl hrul
                    refine lv_iload_n hx hb d_Rd_readText_144 rfl (lv_at hl 2 rfl) ?_
                    refine lv_iconst (v := 3) hx hb d_Rd_readText_145 (by decide) ?_
                    refine nc_lt hx hb 2 3 (by omega) (by omega) d_Rd_readText_146 (tgt := 159) (by decide) (fun h13 => ?_) (fun h13 => ?_)
                    · skip
                      refine lv_null hx hb d_Rd_readText_159 ?_
                      refine lv_astoreN (lv' := [(4, .null), (0, .ref (X.1 3)), (1, .int (nI (11 - (d + 1)))), (2, .int (nI 2)), (3, .ref qn)]) hx hb d_Rd_readText_160 hl (by decide) rfl (fun ls hl => ?_)
                      refine lv_iload_n hx hb d_Rd_readText_162 rfl (lv_at hl 3 rfl) ?_
                      refine st_calli (np := 1) hC (c_Rd_isPair l 2 (by omega)) ⟨wl_Rd_59, wt_Rd_isPair, wc_Rd_isPair, wn_Rd⟩ ⟨by decide, by decide, by decide +kernel⟩ ⟨by show _ ≤ 7 + (d + 1); omega, by show _ ≤ 170 + 25 * (d + 1); omega⟩ hl.1 rfl (rest := []) rfl (Nat.le_of_ble_eq_true rfl) ⟨by show _ ≤ 2 * cnt tl tb (d + 1) ov s0; omega, by show _ ≤ 12 * cnt tl tb (d + 1) ov s0; omega⟩ d_Rd_readText_163 (fun rr hrr => ?_)
                      subst hrr
                      refine bz_eq (tgt := 179) hx hb d_Rd_readText_166 (by decide) (fun h14 => ?_) (fun h14 => ?_)
                      · skip
                        refine lv_null hx hb d_Rd_readText_179 ?_
                        refine lv_astoreN (lv' := [(5, .null), (4, .null), (0, .ref (X.1 3)), (1, .int (nI (11 - (d + 1)))), (2, .int (nI 2)), (3, .ref qn)]) hx hb d_Rd_readText_180 hl (by decide) rfl (fun ls hl => ?_)
                        refine lv_aload_n hx hb d_Rd_readText_182 rfl (lv_at hl 2 rfl) ?_
                        refine rd_get hC in_Rd hK hM.1 3 (cw_he (by omega) (cE_3)) rfl 6 (by decide) wf_Rd_27 rfl (v := .int 0) (congrArg (fun z : Int32 => some (Value.int z)) (h36)) d_Rd_readText_183 ?_
                        refine lv_if_ne (tgt := 201) hx hb d_Rd_readText_186 (by decide) (fun h15 => ?_) (fun h15 => ?_)
                        · exact absurd h15 (by decide)
                        · skip
                          refine lv_iload_n hx hb d_Rd_readText_189 rfl (lv_at hl 4 rfl) ?_
                          refine lv_aload_n hx hb d_Rd_readText_190 rfl (lv_at hl 5 rfl) ?_
                          refine lv_aloadN hx hb d_Rd_readText_191 (lv_at hl 1 rfl) ?_
                          refine lv_aloadN hx hb d_Rd_readText_193 (lv_at hl 0 rfl) ?_
                          refine fo_form (np := 4) hC hK hM hAs (c_Rd_formOf_2 l D cT H.size qn f1) ⟨wl_Rd_63, wt_Rd_formOf, wc_Rd_formOf, wn_Rd⟩ ⟨by decide, by decide, by decide +kernel⟩ ⟨by show _ ≤ 7 + (d + 1); omega, by show _ ≤ 170 + 25 * (d + 1); omega⟩ hl.1 rfl (rest := []) rfl (Nat.le_of_ble_eq_true rfl) ⟨by show _ ≤ 2 * cnt tl tb (d + 1) ov s0; omega, by show _ ≤ 12 * cnt tl tb (d + 1) ov s0; omega⟩ d_Rd_readText_195 (fun o w1 H locs hp hM => ?_)
                          obtain ⟨q, rfl, rfl⟩ := hp
                          refine lv_goto (tgt := 202) hx hb d_Rd_readText_198 (by decide) ?_
                          exact hret _ _ _ (some q) _ _ _ _ _ _ d_Rd_readText_202 rfl hM (by omega) (by omega) (rtQ_s (prs_0 ho (by rw [hrul]; decide)) hR.1 ⟨_, rfl⟩ (ft_plane hrul (List.mem_append_right _ (List.mem_cons_of_mem _ List.mem_cons_self)) hb6) hR.2.1 hb2)
                      · first | contradiction | (exfalso; omega)
                    · first | contradiction | (exfalso; omega)
                · skip
                  by_cases hr6 : r < 6
                  · skip
                    have hr9b : 3 ≤ rul s0 ∧ rul s0 ≤ 5 := by omega
                    refine lv_iload_n hx hb d_Rd_readText_144 rfl (lv_at hl 2 rfl) ?_
                    refine lv_iconst (v := 3) hx hb d_Rd_readText_145 (by decide) ?_
                    refine nc_lt hx hb r 3 (by omega) (by omega) d_Rd_readText_146 (tgt := 159) (by decide) (fun h16 => ?_) (fun h16 => ?_)
                    · first | contradiction | (exfalso; omega)
                    · skip
                      refine lv_aload_n hx hb d_Rd_readText_149 rfl (lv_at hl 0 rfl) ?_
                      refine lv_iload_n hx hb d_Rd_readText_150 rfl (lv_at hl 1 rfl) ?_
                      refine lv_iconst (v := 1) hx hb d_Rd_readText_151 (by decide) ?_
                      refine lv_iadd hx hb d_Rd_readText_152 ?_
                      refine topi_eq (nI_add (11 - (d + 1)) 1) ?_
                      cases hpr : prs tl tb d s0.many (putR s0 ov (t, nb)) with
                      | inl f =>
                        have hcn := cnt_2f (d := d) (ov := ov) hn1 ho (by omega) (by omega) hpr
                        refine topi_eq (show nI ((11 - (d + 1)) + 1) = nI (11 - d) by congr 1; omega) ?_
                        have hm9 := ih (by omega) (XF X (X.2.2.2.2 ++ [(qn, .inl (cT 0, 6, .inl f1))])) I1 a H.size s0.many (putR s0 ov (t, nb)) (fun q9 hq9 => hAN q9 (ca_in hM q9 hq9)) ⟨(hR.1 11 (by omega)).trans hT.1, hT.2⟩ hb2 hR.2.1 hb3 (by show t.1 ≤ 3; omega)
                        refine ca_callq (np := 1) (k := 3) hC hK hM hZ hAN hAs (by omega) cE_3 rfl hm9 rfl ⟨wl_Rd_40, wi_Rd_readText, ws_Rd_readText, wc_Rd_readText, wn_Rd⟩ ⟨by decide, by decide, by decide +kernel⟩ ⟨by show _ ≤ 7 + (d + 1); omega, by show _ ≤ 170 + 25 * (d + 1); omega⟩ hl.1 rfl (rest := []) rfl (Nat.le_of_ble_eq_true rfl) ⟨by show _ ≤ 2 * cnt tl tb (d + 1) ov s0; omega, by show _ ≤ 12 * cnt tl tb (d + 1) ov s0; omega⟩ d_Rd_readText_153 (fun o1 F1 J1 H locs hp1 hM => ?_)
                        obtain ⟨hcf1, ⟨G1, hG1⟩, hci1, hcs1⟩ := hp1
                        replace hG1 : F1 = (X.2.2.2.2 ++ [(qn, .inl (cT 0, 6, .inl f1))]) ++ G1 := hG1
                        subst hG1
                        replace hM : CO D cT (cA X sz) (XF X ((X.2.2.2.2 ++ [(qn, .inl (cT 0, 6, .inl f1))]) ++ G1)) J1 a s.heap H locs := hM
                        replace hcf1 : ∀ q, ¬ (31 ≤ q ∧ q ≤ 37) → J1 q = I1 q := hcf1
                        obtain ⟨rfl, hg36, hg37, hg1⟩ := hci1 f hpr
                        refine lv_goto (tgt := 160) hx hb d_Rd_readText_156 (by decide) ?_
                        refine lv_astoreN (lv' := [(4, .null), (0, .ref (X.1 3)), (1, .int (nI (11 - (d + 1)))), (2, .int (nI r)), (3, .ref qn)]) hx hb d_Rd_readText_160 hl (by decide) rfl (fun ls hl => ?_)
                        refine lv_iload_n hx hb d_Rd_readText_162 rfl (lv_at hl 3 rfl) ?_
                        refine st_calli (np := 1) hC (c_Rd_isPair l r (by omega)) ⟨wl_Rd_59, wt_Rd_isPair, wc_Rd_isPair, wn_Rd⟩ ⟨by decide, by decide, by decide +kernel⟩ ⟨by show _ ≤ 7 + (d + 1); omega, by show _ ≤ 170 + 25 * (d + 1); omega⟩ hl.1 rfl (rest := []) rfl (Nat.le_of_ble_eq_true rfl) ⟨by show _ ≤ 2 * cnt tl tb (d + 1) ov s0; omega, by show _ ≤ 12 * cnt tl tb (d + 1) ov s0; omega⟩ d_Rd_readText_163 (fun rr hrr => ?_)
                        subst hrr
                        refine bz_eq (tgt := 179) hx hb d_Rd_readText_166 (by decide) (fun h17 => ?_) (fun h17 => ?_)
                        · first | contradiction | (exfalso; omega)
                        · skip
                          refine lv_aload_n hx hb d_Rd_readText_169 rfl (lv_at hl 1 rfl) ?_
                          refine lv_iload_n hx hb d_Rd_readText_170 rfl (lv_at hl 2 rfl) ?_
                          refine lv_iconst (v := 1) hx hb d_Rd_readText_171 (by decide) ?_
                          refine lv_iadd hx hb d_Rd_readText_172 ?_
                          refine topi_eq (nI_add (11 - (d + 1)) 1) ?_
                          have hm9 := c_Rd_readText_f l D cT (XF X ((X.2.2.2.2 ++ [(qn, .inl (cT 0, 6, .inl f1))]) ++ G1)) J1 a (nI ((11 - (d + 1)) + 1)) f.1 hg36 hg1
                          refine co_callq (np := 1) hC hK hM (k := 3) (by omega) (cE_3) rfl hm9 rfl ⟨wl_Rd_40, wi_Rd_readText, ws_Rd_readText, wc_Rd_readText, wn_Rd⟩ ⟨by decide, by decide, by decide +kernel⟩ ⟨by show _ ≤ 7 + (d + 1); omega, by show _ ≤ 170 + 25 * (d + 1); omega⟩ hl.1 rfl (rest := []) rfl (Nat.le_of_ble_eq_true rfl) ⟨by show _ ≤ 2 * cnt tl tb (d + 1) ov s0; omega, by show _ ≤ 12 * cnt tl tb (d + 1) ov s0; omega⟩ d_Rd_readText_173 (fun rr18 I18 a18 H locs hp18 hM => ?_)
                          obtain ⟨hr18, hp18⟩ := hp18
                          cases hp18
                          subst hr18
                          refine lv_goto (tgt := 180) hx hb d_Rd_readText_176 (by decide) ?_
                          refine lv_astoreN (lv' := [(5, .null), (4, .null), (0, .ref (X.1 3)), (1, .int (nI (11 - (d + 1)))), (2, .int (nI r)), (3, .ref qn)]) hx hb d_Rd_readText_180 hl (by decide) rfl (fun ls hl => ?_)
                          refine lv_aload_n hx hb d_Rd_readText_182 rfl (lv_at hl 2 rfl) ?_
                          refine rd_get hC in_Rd hK hM.1 3 (cw_he (by omega) (cE_3)) rfl 6 (by decide) wf_Rd_27 rfl (v := .int (nI f.1)) (congrArg (fun z : Int32 => some (Value.int z)) (hg36)) d_Rd_readText_183 ?_
                          refine nz_ne hx hb f.1 (by omega) d_Rd_readText_186 (tgt := 201) (by decide) (fun h19 => ?_) (fun h19 => ?_)
                          · skip
                            refine lv_null hx hb d_Rd_readText_201 ?_
                            exact hret _ _ _ none _ _ _ _ _ _ d_Rd_readText_202 rfl hM (by omega) (by omega) (rtQ_f (by rw [prs_2 ho (by omega) (by omega), hpr]) (fun q9 hq9 => (hcf1 q9 hq9).trans (hR.1 q9 hq9)) ⟨_, List.append_assoc _ _ _⟩ hg36 hg37 hg1)
                          · first | contradiction | (exfalso; omega)
                      | inr s2 =>
                        have hk2 := prs_ok (by omega) d s0.many _ s2 hb3 hpr
                        cases hpr2 : prs tl tb d s0.many s2 with
                        | inl f =>
                          have hcn := cnt_2 (d := d) (ov := ov) hn1 ho (by omega) (by omega) hpr
                          refine topi_eq (show nI ((11 - (d + 1)) + 1) = nI (11 - d) by congr 1; omega) ?_
                          have hm9 := ih (by omega) (XF X (X.2.2.2.2 ++ [(qn, .inl (cT 0, 6, .inl f1))])) I1 a H.size s0.many (putR s0 ov (t, nb)) (fun q9 hq9 => hAN q9 (ca_in hM q9 hq9)) ⟨(hR.1 11 (by omega)).trans hT.1, hT.2⟩ hb2 hR.2.1 hb3 (by show t.1 ≤ 3; omega)
                          refine ca_callq (np := 1) (k := 3) hC hK hM hZ hAN hAs (by omega) cE_3 rfl hm9 rfl ⟨wl_Rd_40, wi_Rd_readText, ws_Rd_readText, wc_Rd_readText, wn_Rd⟩ ⟨by decide, by decide, by decide +kernel⟩ ⟨by show _ ≤ 7 + (d + 1); omega, by show _ ≤ 170 + 25 * (d + 1); omega⟩ hl.1 rfl (rest := []) rfl (Nat.le_of_ble_eq_true rfl) ⟨by show _ ≤ 2 * cnt tl tb (d + 1) ov s0; omega, by show _ ≤ 12 * cnt tl tb (d + 1) ov s0; omega⟩ d_Rd_readText_153 (fun o1 F1 J1 H locs hp1 hM => ?_)
                          obtain ⟨hcf1, ⟨G1, hG1⟩, hci1, hcs1⟩ := hp1
                          replace hG1 : F1 = (X.2.2.2.2 ++ [(qn, .inl (cT 0, 6, .inl f1))]) ++ G1 := hG1
                          subst hG1
                          replace hM : CO D cT (cA X sz) (XF X ((X.2.2.2.2 ++ [(qn, .inl (cT 0, 6, .inl f1))]) ++ G1)) J1 a s.heap H locs := hM
                          replace hcf1 : ∀ q, ¬ (31 ≤ q ∧ q ≤ 37) → J1 q = I1 q := hcf1
                          obtain ⟨r1, rfl, hFT1, hg35, hgt⟩ := hcs1 s2 hpr
                          refine lv_goto (tgt := 160) hx hb d_Rd_readText_156 (by decide) ?_
                          refine lv_astore (lv' := [(4, .ref r1), (0, .ref (X.1 3)), (1, .int (nI (11 - (d + 1)))), (2, .int (nI r)), (3, .ref qn)]) hx hb d_Rd_readText_160 hl (by decide) rfl (fun ls hl => ?_)
                          refine lv_iload_n hx hb d_Rd_readText_162 rfl (lv_at hl 3 rfl) ?_
                          refine st_calli (np := 1) hC (c_Rd_isPair l r (by omega)) ⟨wl_Rd_59, wt_Rd_isPair, wc_Rd_isPair, wn_Rd⟩ ⟨by decide, by decide, by decide +kernel⟩ ⟨by show _ ≤ 7 + (d + 1); omega, by show _ ≤ 170 + 25 * (d + 1); omega⟩ hl.1 rfl (rest := []) rfl (Nat.le_of_ble_eq_true rfl) ⟨by show _ ≤ 2 * cnt tl tb (d + 1) ov s0; omega, by show _ ≤ 12 * cnt tl tb (d + 1) ov s0; omega⟩ d_Rd_readText_163 (fun rr hrr => ?_)
                          subst hrr
                          refine bz_eq (tgt := 179) hx hb d_Rd_readText_166 (by decide) (fun h20 => ?_) (fun h20 => ?_)
                          · first | contradiction | (exfalso; omega)
                          · skip
                            refine lv_aload_n hx hb d_Rd_readText_169 rfl (lv_at hl 1 rfl) ?_
                            refine lv_iload_n hx hb d_Rd_readText_170 rfl (lv_at hl 2 rfl) ?_
                            refine lv_iconst (v := 1) hx hb d_Rd_readText_171 (by decide) ?_
                            refine lv_iadd hx hb d_Rd_readText_172 ?_
                            refine topi_eq (nI_add (11 - (d + 1)) 1) ?_
                            refine topi_eq (show nI ((11 - (d + 1)) + 1) = nI (11 - d) by congr 1; omega) ?_
                            have hm9 := ih (by omega) (XF X ((X.2.2.2.2 ++ [(qn, .inl (cT 0, 6, .inl f1))]) ++ G1)) J1 a H.size s0.many s2 (fun q9 hq9 => hAN q9 (ca_in hM q9 hq9)) ⟨(hcf1 11 (by omega)).trans ((hR.1 11 (by omega)).trans hT.1), hT.2⟩ hgt hg35 hk2.2.2.2.2.2.1 (by have h9 := prs_t3 (by omega) htb _ _ _ _ (show (putR s0 ov (t, nb)).t.1 ≤ 3 by show t.1 ≤ 3; omega) hpr; exact h9)
                            refine ca_callq (np := 1) (k := 3) hC hK hM hZ hAN hAs (by omega) cE_3 rfl hm9 rfl ⟨wl_Rd_40, wi_Rd_readText, ws_Rd_readText, wc_Rd_readText, wn_Rd⟩ ⟨by decide, by decide, by decide +kernel⟩ ⟨by show _ ≤ 7 + (d + 1); omega, by show _ ≤ 170 + 25 * (d + 1); omega⟩ hl.1 rfl (rest := []) rfl (Nat.le_of_ble_eq_true rfl) ⟨by show _ ≤ 2 * cnt tl tb (d + 1) ov s0; omega, by show _ ≤ 12 * cnt tl tb (d + 1) ov s0; omega⟩ d_Rd_readText_173 (fun o2 F2 J2 H locs hp2 hM => ?_)
                            obtain ⟨hcf2, ⟨G2, hG2⟩, hci2, hcs2⟩ := hp2
                            replace hG2 : F2 = ((X.2.2.2.2 ++ [(qn, .inl (cT 0, 6, .inl f1))]) ++ G1) ++ G2 := hG2
                            subst hG2
                            replace hM : CO D cT (cA X sz) (XF X (((X.2.2.2.2 ++ [(qn, .inl (cT 0, 6, .inl f1))]) ++ G1) ++ G2)) J2 a s.heap H locs := hM
                            replace hcf2 : ∀ q, ¬ (31 ≤ q ∧ q ≤ 37) → J2 q = J1 q := hcf2
                            obtain ⟨rfl, hg36, hg37, hg1⟩ := hci2 f hpr2
                            refine lv_goto (tgt := 180) hx hb d_Rd_readText_176 (by decide) ?_
                            refine lv_astoreN (lv' := [(5, .null), (4, .ref r1), (0, .ref (X.1 3)), (1, .int (nI (11 - (d + 1)))), (2, .int (nI r)), (3, .ref qn)]) hx hb d_Rd_readText_180 hl (by decide) rfl (fun ls hl => ?_)
                            refine lv_aload_n hx hb d_Rd_readText_182 rfl (lv_at hl 2 rfl) ?_
                            refine rd_get hC in_Rd hK hM.1 3 (cw_he (by omega) (cE_3)) rfl 6 (by decide) wf_Rd_27 rfl (v := .int (nI f.1)) (congrArg (fun z : Int32 => some (Value.int z)) (hg36)) d_Rd_readText_183 ?_
                            refine nz_ne hx hb f.1 (by omega) d_Rd_readText_186 (tgt := 201) (by decide) (fun h21 => ?_) (fun h21 => ?_)
                            · skip
                              refine lv_null hx hb d_Rd_readText_201 ?_
                              exact hret _ _ _ none _ _ _ _ _ _ d_Rd_readText_202 rfl hM (by omega) (by omega) (rtQ_f (by rw [prs_2 ho (by omega) (by omega), hpr]; exact hpr2) (fun q9 hq9 => (hcf2 q9 hq9).trans ((hcf1 q9 hq9).trans (hR.1 q9 hq9))) ⟨_, by rw [List.append_assoc, List.append_assoc]⟩ hg36 hg37 hg1)
                            · first | contradiction | (exfalso; omega)
                        | inr s3 =>
                          have hcn := cnt_2 (d := d) (ov := ov) hn1 ho (by omega) (by omega) hpr
                          refine topi_eq (show nI ((11 - (d + 1)) + 1) = nI (11 - d) by congr 1; omega) ?_
                          have hm9 := ih (by omega) (XF X (X.2.2.2.2 ++ [(qn, .inl (cT 0, 6, .inl f1))])) I1 a H.size s0.many (putR s0 ov (t, nb)) (fun q9 hq9 => hAN q9 (ca_in hM q9 hq9)) ⟨(hR.1 11 (by omega)).trans hT.1, hT.2⟩ hb2 hR.2.1 hb3 (by show t.1 ≤ 3; omega)
                          refine ca_callq (np := 1) (k := 3) hC hK hM hZ hAN hAs (by omega) cE_3 rfl hm9 rfl ⟨wl_Rd_40, wi_Rd_readText, ws_Rd_readText, wc_Rd_readText, wn_Rd⟩ ⟨by decide, by decide, by decide +kernel⟩ ⟨by show _ ≤ 7 + (d + 1); omega, by show _ ≤ 170 + 25 * (d + 1); omega⟩ hl.1 rfl (rest := []) rfl (Nat.le_of_ble_eq_true rfl) ⟨by show _ ≤ 2 * cnt tl tb (d + 1) ov s0; omega, by show _ ≤ 12 * cnt tl tb (d + 1) ov s0; omega⟩ d_Rd_readText_153 (fun o1 F1 J1 H locs hp1 hM => ?_)
                          obtain ⟨hcf1, ⟨G1, hG1⟩, hci1, hcs1⟩ := hp1
                          replace hG1 : F1 = (X.2.2.2.2 ++ [(qn, .inl (cT 0, 6, .inl f1))]) ++ G1 := hG1
                          subst hG1
                          replace hM : CO D cT (cA X sz) (XF X ((X.2.2.2.2 ++ [(qn, .inl (cT 0, 6, .inl f1))]) ++ G1)) J1 a s.heap H locs := hM
                          replace hcf1 : ∀ q, ¬ (31 ≤ q ∧ q ≤ 37) → J1 q = I1 q := hcf1
                          obtain ⟨r1, rfl, hFT1, hg35, hgt⟩ := hcs1 s2 hpr
                          refine lv_goto (tgt := 160) hx hb d_Rd_readText_156 (by decide) ?_
                          refine lv_astore (lv' := [(4, .ref r1), (0, .ref (X.1 3)), (1, .int (nI (11 - (d + 1)))), (2, .int (nI r)), (3, .ref qn)]) hx hb d_Rd_readText_160 hl (by decide) rfl (fun ls hl => ?_)
                          refine lv_iload_n hx hb d_Rd_readText_162 rfl (lv_at hl 3 rfl) ?_
                          refine st_calli (np := 1) hC (c_Rd_isPair l r (by omega)) ⟨wl_Rd_59, wt_Rd_isPair, wc_Rd_isPair, wn_Rd⟩ ⟨by decide, by decide, by decide +kernel⟩ ⟨by show _ ≤ 7 + (d + 1); omega, by show _ ≤ 170 + 25 * (d + 1); omega⟩ hl.1 rfl (rest := []) rfl (Nat.le_of_ble_eq_true rfl) ⟨by show _ ≤ 2 * cnt tl tb (d + 1) ov s0; omega, by show _ ≤ 12 * cnt tl tb (d + 1) ov s0; omega⟩ d_Rd_readText_163 (fun rr hrr => ?_)
                          subst hrr
                          refine bz_eq (tgt := 179) hx hb d_Rd_readText_166 (by decide) (fun h22 => ?_) (fun h22 => ?_)
                          · first | contradiction | (exfalso; omega)
                          · skip
                            refine lv_aload_n hx hb d_Rd_readText_169 rfl (lv_at hl 1 rfl) ?_
                            refine lv_iload_n hx hb d_Rd_readText_170 rfl (lv_at hl 2 rfl) ?_
                            refine lv_iconst (v := 1) hx hb d_Rd_readText_171 (by decide) ?_
                            refine lv_iadd hx hb d_Rd_readText_172 ?_
                            refine topi_eq (nI_add (11 - (d + 1)) 1) ?_
                            refine topi_eq (show nI ((11 - (d + 1)) + 1) = nI (11 - d) by congr 1; omega) ?_
                            have hm9 := ih (by omega) (XF X ((X.2.2.2.2 ++ [(qn, .inl (cT 0, 6, .inl f1))]) ++ G1)) J1 a H.size s0.many s2 (fun q9 hq9 => hAN q9 (ca_in hM q9 hq9)) ⟨(hcf1 11 (by omega)).trans ((hR.1 11 (by omega)).trans hT.1), hT.2⟩ hgt hg35 hk2.2.2.2.2.2.1 (by have h9 := prs_t3 (by omega) htb _ _ _ _ (show (putR s0 ov (t, nb)).t.1 ≤ 3 by show t.1 ≤ 3; omega) hpr; exact h9)
                            refine ca_callq (np := 1) (k := 3) hC hK hM hZ hAN hAs (by omega) cE_3 rfl hm9 rfl ⟨wl_Rd_40, wi_Rd_readText, ws_Rd_readText, wc_Rd_readText, wn_Rd⟩ ⟨by decide, by decide, by decide +kernel⟩ ⟨by show _ ≤ 7 + (d + 1); omega, by show _ ≤ 170 + 25 * (d + 1); omega⟩ hl.1 rfl (rest := []) rfl (Nat.le_of_ble_eq_true rfl) ⟨by show _ ≤ 2 * cnt tl tb (d + 1) ov s0; omega, by show _ ≤ 12 * cnt tl tb (d + 1) ov s0; omega⟩ d_Rd_readText_173 (fun o2 F2 J2 H locs hp2 hM => ?_)
                            obtain ⟨hcf2, ⟨G2, hG2⟩, hci2, hcs2⟩ := hp2
                            replace hG2 : F2 = ((X.2.2.2.2 ++ [(qn, .inl (cT 0, 6, .inl f1))]) ++ G1) ++ G2 := hG2
                            subst hG2
                            replace hM : CO D cT (cA X sz) (XF X (((X.2.2.2.2 ++ [(qn, .inl (cT 0, 6, .inl f1))]) ++ G1) ++ G2)) J2 a s.heap H locs := hM
                            replace hcf2 : ∀ q, ¬ (31 ≤ q ∧ q ≤ 37) → J2 q = J1 q := hcf2
                            obtain ⟨r2, rfl, hFT2, hh35, hht⟩ := hcs2 s3 hpr2
                            refine lv_goto (tgt := 180) hx hb d_Rd_readText_176 (by decide) ?_
                            refine lv_astore (lv' := [(5, .ref r2), (4, .ref r1), (0, .ref (X.1 3)), (1, .int (nI (11 - (d + 1)))), (2, .int (nI r)), (3, .ref qn)]) hx hb d_Rd_readText_180 hl (by decide) rfl (fun ls hl => ?_)
                            refine lv_aload_n hx hb d_Rd_readText_182 rfl (lv_at hl 2 rfl) ?_
                            refine rd_get hC in_Rd hK hM.1 3 (cw_he (by omega) (cE_3)) rfl 6 (by decide) wf_Rd_27 rfl (v := .int 0) (congrArg (fun z : Int32 => some (Value.int z)) (hht.1)) d_Rd_readText_183 ?_
                            refine lv_if_ne (tgt := 201) hx hb d_Rd_readText_186 (by decide) (fun h23 => ?_) (fun h23 => ?_)
                            · exact absurd h23 (by decide)
                            · skip
                              refine lv_iload_n hx hb d_Rd_readText_189 rfl (lv_at hl 4 rfl) ?_
                              refine lv_aload_n hx hb d_Rd_readText_190 rfl (lv_at hl 5 rfl) ?_
                              refine lv_aload hx hb d_Rd_readText_191 (lv_at hl 1 rfl) ?_
                              refine lv_aload hx hb d_Rd_readText_193 (lv_at hl 0 rfl) ?_
                              replace hM : CO D cT (cA X sz) (XF X ((X.2.2.2.2 ++ (G1 ++ G2)) ++ [(qn, .inl (cT 0, 6, .inl f1))])) J2 a s.heap H locs := NM_perm (cw_perm pm2) hM
                              refine fo_form (np := 4) hC hK hM hAs (c_Rd_formOf_p l D cT H.size qn f1 r r1 r2 (by omega)) ⟨wl_Rd_63, wt_Rd_formOf, wc_Rd_formOf, wn_Rd⟩ ⟨by decide, by decide, by decide +kernel⟩ ⟨by show _ ≤ 7 + (d + 1); omega, by show _ ≤ 170 + 25 * (d + 1); omega⟩ hl.1 rfl (rest := []) rfl (Nat.le_of_ble_eq_true rfl) ⟨by show _ ≤ 2 * cnt tl tb (d + 1) ov s0; omega, by show _ ≤ 12 * cnt tl tb (d + 1) ov s0; omega⟩ d_Rd_readText_195 (fun o w1 H locs hp hM => ?_)
                              obtain ⟨q, rfl, rfl⟩ := hp
                              refine lv_goto (tgt := 202) hx hb d_Rd_readText_198 (by decide) ?_
                              exact hret _ _ _ (some q) _ _ _ _ _ _ d_Rd_readText_202 rfl hM (by omega) (by omega) (rtQ_s (by rw [prs_2 ho (by omega) (by omega), hpr]; exact hpr2) (fun q9 hq9 => (hcf2 q9 hq9).trans ((hcf1 q9 hq9).trans (hR.1 q9 hq9))) ⟨_, List.append_assoc _ _ _⟩ (ft_two (by omega) hb3 hr9b hpr hpr2 hFT1 (fun x9 hx9 => by simp only [List.mem_append, List.mem_cons, List.not_mem_nil, or_false] at hx9 ⊢; rcases hx9 with (h9 | h9) | h9 <;> simp [h9]) (FT_sub (fun x9 hx9 => by simp only [List.mem_append, List.mem_cons, List.not_mem_nil, or_false] at hx9 ⊢; rcases hx9 with ((h9 | h9) | h9) | h9 <;> simp [h9]) hFT2) (List.mem_append_right _ (List.mem_cons_of_mem _ (by rw [hrul]; exact List.mem_cons_self)))) hh35 hht)
                  · skip
                    have hr9b : 6 ≤ rul s0 ∧ rul s0 ≤ 9 := by omega
                    refine lv_iload_n hx hb d_Rd_readText_144 rfl (lv_at hl 2 rfl) ?_
                    refine lv_iconst (v := 3) hx hb d_Rd_readText_145 (by decide) ?_
                    refine nc_lt hx hb r 3 (by omega) (by omega) d_Rd_readText_146 (tgt := 159) (by decide) (fun h24 => ?_) (fun h24 => ?_)
                    · first | contradiction | (exfalso; omega)
                    · skip
                      refine lv_aload_n hx hb d_Rd_readText_149 rfl (lv_at hl 0 rfl) ?_
                      refine lv_iload_n hx hb d_Rd_readText_150 rfl (lv_at hl 1 rfl) ?_
                      refine lv_iconst (v := 1) hx hb d_Rd_readText_151 (by decide) ?_
                      refine lv_iadd hx hb d_Rd_readText_152 ?_
                      refine topi_eq (nI_add (11 - (d + 1)) 1) ?_
                      cases hpr : prs tl tb d s0.many (putR s0 ov (t, nb)) with
                      | inl f =>
                        have hcn := cnt_1 (d := d) (ov := ov) hn1 ho (by omega)
                        refine topi_eq (show nI ((11 - (d + 1)) + 1) = nI (11 - d) by congr 1; omega) ?_
                        have hm9 := ih (by omega) (XF X (X.2.2.2.2 ++ [(qn, .inl (cT 0, 6, .inl f1))])) I1 a H.size s0.many (putR s0 ov (t, nb)) (fun q9 hq9 => hAN q9 (ca_in hM q9 hq9)) ⟨(hR.1 11 (by omega)).trans hT.1, hT.2⟩ hb2 hR.2.1 hb3 (by show t.1 ≤ 3; omega)
                        refine ca_callq (np := 1) (k := 3) hC hK hM hZ hAN hAs (by omega) cE_3 rfl hm9 rfl ⟨wl_Rd_40, wi_Rd_readText, ws_Rd_readText, wc_Rd_readText, wn_Rd⟩ ⟨by decide, by decide, by decide +kernel⟩ ⟨by show _ ≤ 7 + (d + 1); omega, by show _ ≤ 170 + 25 * (d + 1); omega⟩ hl.1 rfl (rest := []) rfl (Nat.le_of_ble_eq_true rfl) ⟨by show _ ≤ 2 * cnt tl tb (d + 1) ov s0; omega, by show _ ≤ 12 * cnt tl tb (d + 1) ov s0; omega⟩ d_Rd_readText_153 (fun o1 F1 J1 H locs hp1 hM => ?_)
                        obtain ⟨hcf1, ⟨G1, hG1⟩, hci1, hcs1⟩ := hp1
                        replace hG1 : F1 = (X.2.2.2.2 ++ [(qn, .inl (cT 0, 6, .inl f1))]) ++ G1 := hG1
                        subst hG1
                        replace hM : CO D cT (cA X sz) (XF X ((X.2.2.2.2 ++ [(qn, .inl (cT 0, 6, .inl f1))]) ++ G1)) J1 a s.heap H locs := hM
                        replace hcf1 : ∀ q, ¬ (31 ≤ q ∧ q ≤ 37) → J1 q = I1 q := hcf1
                        obtain ⟨rfl, hg36, hg37, hg1⟩ := hci1 f hpr
                        refine lv_goto (tgt := 160) hx hb d_Rd_readText_156 (by decide) ?_
                        refine lv_astoreN (lv' := [(4, .null), (0, .ref (X.1 3)), (1, .int (nI (11 - (d + 1)))), (2, .int (nI r)), (3, .ref qn)]) hx hb d_Rd_readText_160 hl (by decide) rfl (fun ls hl => ?_)
                        refine lv_iload_n hx hb d_Rd_readText_162 rfl (lv_at hl 3 rfl) ?_
                        refine st_calli (np := 1) hC (c_Rd_isPair l r (by omega)) ⟨wl_Rd_59, wt_Rd_isPair, wc_Rd_isPair, wn_Rd⟩ ⟨by decide, by decide, by decide +kernel⟩ ⟨by show _ ≤ 7 + (d + 1); omega, by show _ ≤ 170 + 25 * (d + 1); omega⟩ hl.1 rfl (rest := []) rfl (Nat.le_of_ble_eq_true rfl) ⟨by show _ ≤ 2 * cnt tl tb (d + 1) ov s0; omega, by show _ ≤ 12 * cnt tl tb (d + 1) ov s0; omega⟩ d_Rd_readText_163 (fun rr hrr => ?_)
                        subst hrr
                        refine bz_eq (tgt := 179) hx hb d_Rd_readText_166 (by decide) (fun h25 => ?_) (fun h25 => ?_)
                        · skip
                          refine lv_null hx hb d_Rd_readText_179 ?_
                          refine lv_astoreN (lv' := [(5, .null), (4, .null), (0, .ref (X.1 3)), (1, .int (nI (11 - (d + 1)))), (2, .int (nI r)), (3, .ref qn)]) hx hb d_Rd_readText_180 hl (by decide) rfl (fun ls hl => ?_)
                          refine lv_aload_n hx hb d_Rd_readText_182 rfl (lv_at hl 2 rfl) ?_
                          refine rd_get hC in_Rd hK hM.1 3 (cw_he (by omega) (cE_3)) rfl 6 (by decide) wf_Rd_27 rfl (v := .int (nI f.1)) (congrArg (fun z : Int32 => some (Value.int z)) (hg36)) d_Rd_readText_183 ?_
                          refine nz_ne hx hb f.1 (by omega) d_Rd_readText_186 (tgt := 201) (by decide) (fun h26 => ?_) (fun h26 => ?_)
                          · skip
                            refine lv_null hx hb d_Rd_readText_201 ?_
                            exact hret _ _ _ none _ _ _ _ _ _ d_Rd_readText_202 rfl hM (by omega) (by omega) (rtQ_f ((prs_1 ho (by omega)).trans hpr) (fun q9 hq9 => (hcf1 q9 hq9).trans (hR.1 q9 hq9)) ⟨_, List.append_assoc _ _ _⟩ hg36 hg37 hg1)
                          · first | contradiction | (exfalso; omega)
                        · first | contradiction | (exfalso; omega)
                      | inr s2 =>
                        have hcn := cnt_1 (d := d) (ov := ov) hn1 ho (by omega)
                        refine topi_eq (show nI ((11 - (d + 1)) + 1) = nI (11 - d) by congr 1; omega) ?_
                        have hm9 := ih (by omega) (XF X (X.2.2.2.2 ++ [(qn, .inl (cT 0, 6, .inl f1))])) I1 a H.size s0.many (putR s0 ov (t, nb)) (fun q9 hq9 => hAN q9 (ca_in hM q9 hq9)) ⟨(hR.1 11 (by omega)).trans hT.1, hT.2⟩ hb2 hR.2.1 hb3 (by show t.1 ≤ 3; omega)
                        refine ca_callq (np := 1) (k := 3) hC hK hM hZ hAN hAs (by omega) cE_3 rfl hm9 rfl ⟨wl_Rd_40, wi_Rd_readText, ws_Rd_readText, wc_Rd_readText, wn_Rd⟩ ⟨by decide, by decide, by decide +kernel⟩ ⟨by show _ ≤ 7 + (d + 1); omega, by show _ ≤ 170 + 25 * (d + 1); omega⟩ hl.1 rfl (rest := []) rfl (Nat.le_of_ble_eq_true rfl) ⟨by show _ ≤ 2 * cnt tl tb (d + 1) ov s0; omega, by show _ ≤ 12 * cnt tl tb (d + 1) ov s0; omega⟩ d_Rd_readText_153 (fun o1 F1 J1 H locs hp1 hM => ?_)
                        obtain ⟨hcf1, ⟨G1, hG1⟩, hci1, hcs1⟩ := hp1
                        replace hG1 : F1 = (X.2.2.2.2 ++ [(qn, .inl (cT 0, 6, .inl f1))]) ++ G1 := hG1
                        subst hG1
                        replace hM : CO D cT (cA X sz) (XF X ((X.2.2.2.2 ++ [(qn, .inl (cT 0, 6, .inl f1))]) ++ G1)) J1 a s.heap H locs := hM
                        replace hcf1 : ∀ q, ¬ (31 ≤ q ∧ q ≤ 37) → J1 q = I1 q := hcf1
                        obtain ⟨r1, rfl, hFT1, hg35, hgt⟩ := hcs1 s2 hpr
                        refine lv_goto (tgt := 160) hx hb d_Rd_readText_156 (by decide) ?_
                        refine lv_astore (lv' := [(4, .ref r1), (0, .ref (X.1 3)), (1, .int (nI (11 - (d + 1)))), (2, .int (nI r)), (3, .ref qn)]) hx hb d_Rd_readText_160 hl (by decide) rfl (fun ls hl => ?_)
                        refine lv_iload_n hx hb d_Rd_readText_162 rfl (lv_at hl 3 rfl) ?_
                        refine st_calli (np := 1) hC (c_Rd_isPair l r (by omega)) ⟨wl_Rd_59, wt_Rd_isPair, wc_Rd_isPair, wn_Rd⟩ ⟨by decide, by decide, by decide +kernel⟩ ⟨by show _ ≤ 7 + (d + 1); omega, by show _ ≤ 170 + 25 * (d + 1); omega⟩ hl.1 rfl (rest := []) rfl (Nat.le_of_ble_eq_true rfl) ⟨by show _ ≤ 2 * cnt tl tb (d + 1) ov s0; omega, by show _ ≤ 12 * cnt tl tb (d + 1) ov s0; omega⟩ d_Rd_readText_163 (fun rr hrr => ?_)
                        subst hrr
                        refine bz_eq (tgt := 179) hx hb d_Rd_readText_166 (by decide) (fun h27 => ?_) (fun h27 => ?_)
                        · skip
                          refine lv_null hx hb d_Rd_readText_179 ?_
                          refine lv_astoreN (lv' := [(5, .null), (4, .ref r1), (0, .ref (X.1 3)), (1, .int (nI (11 - (d + 1)))), (2, .int (nI r)), (3, .ref qn)]) hx hb d_Rd_readText_180 hl (by decide) rfl (fun ls hl => ?_)
                          refine lv_aload_n hx hb d_Rd_readText_182 rfl (lv_at hl 2 rfl) ?_
                          refine rd_get hC in_Rd hK hM.1 3 (cw_he (by omega) (cE_3)) rfl 6 (by decide) wf_Rd_27 rfl (v := .int 0) (congrArg (fun z : Int32 => some (Value.int z)) (hgt.1)) d_Rd_readText_183 ?_
                          refine lv_if_ne (tgt := 201) hx hb d_Rd_readText_186 (by decide) (fun h28 => ?_) (fun h28 => ?_)
                          · exact absurd h28 (by decide)
                          · skip
                            refine lv_iload_n hx hb d_Rd_readText_189 rfl (lv_at hl 4 rfl) ?_
                            refine lv_aload_n hx hb d_Rd_readText_190 rfl (lv_at hl 5 rfl) ?_
                            refine lv_aload hx hb d_Rd_readText_191 (lv_at hl 1 rfl) ?_
                            refine lv_aloadN hx hb d_Rd_readText_193 (lv_at hl 0 rfl) ?_
                            replace hM : CO D cT (cA X sz) (XF X ((X.2.2.2.2 ++ G1) ++ [(qn, .inl (cT 0, 6, .inl f1))])) J1 a s.heap H locs := NM_perm (cw_perm pm1) hM
                            refine fo_form (np := 4) hC hK hM hAs (c_Rd_formOf_l l D cT H.size qn f1 r r1 (by omega)) ⟨wl_Rd_63, wt_Rd_formOf, wc_Rd_formOf, wn_Rd⟩ ⟨by decide, by decide, by decide +kernel⟩ ⟨by show _ ≤ 7 + (d + 1); omega, by show _ ≤ 170 + 25 * (d + 1); omega⟩ hl.1 rfl (rest := []) rfl (Nat.le_of_ble_eq_true rfl) ⟨by show _ ≤ 2 * cnt tl tb (d + 1) ov s0; omega, by show _ ≤ 12 * cnt tl tb (d + 1) ov s0; omega⟩ d_Rd_readText_195 (fun o w1 H locs hp hM => ?_)
                            obtain ⟨q, rfl, rfl⟩ := hp
                            refine lv_goto (tgt := 202) hx hb d_Rd_readText_198 (by decide) ?_
                            exact hret _ _ _ (some q) _ _ _ _ _ _ d_Rd_readText_202 rfl hM (by omega) (by omega) (rtQ_s ((prs_1 ho (by omega)).trans hpr) (fun q9 hq9 => (hcf1 q9 hq9).trans (hR.1 q9 hq9)) ⟨_, List.append_assoc _ _ _⟩ (ft_one (f1 := f1) (by omega) hb3 hr9b hpr hFT1 (fun x9 hx9 => by simp only [List.mem_append, List.mem_cons, List.not_mem_nil, or_false] at hx9 ⊢; rcases hx9 with (h9 | h9) | h9 <;> simp [h9]) (List.mem_append_right _ (List.mem_cons_of_mem _ (by rw [hrul]; exact List.mem_cons_self))) hb6) hg35 hgt)
                        · first | contradiction | (exfalso; omega)
              · skip
                have hcn := cnt_f (d := d) (ov := ov) hn1 (rt_of (ov := ov) hR hn1 hrul (by omega))
                have hw41 := hR.2.2.2.1
                refine lv_iload_n hx hb d_Rd_readText_144 rfl (lv_at hl 2 rfl) ?_
                refine lv_iconst (v := 3) hx hb d_Rd_readText_145 (by decide) ?_
                refine nc_lt hx hb r 3 (by omega) (by omega) d_Rd_readText_146 (tgt := 159) (by decide) (fun h29 => ?_) (fun h29 => ?_)
                · skip
                  refine lv_null hx hb d_Rd_readText_159 ?_
                  refine lv_astoreN (lv' := [(4, .null), (0, .ref (X.1 3)), (1, .int (nI (11 - (d + 1)))), (2, .int (nI r)), (3, .ref qn)]) hx hb d_Rd_readText_160 hl (by decide) rfl (fun ls hl => ?_)
                  refine lv_iload_n hx hb d_Rd_readText_162 rfl (lv_at hl 3 rfl) ?_
                  refine st_calli (np := 1) hC (c_Rd_isPair l r (by omega)) ⟨wl_Rd_59, wt_Rd_isPair, wc_Rd_isPair, wn_Rd⟩ ⟨by decide, by decide, by decide +kernel⟩ ⟨by show _ ≤ 7 + (d + 1); omega, by show _ ≤ 170 + 25 * (d + 1); omega⟩ hl.1 rfl (rest := []) rfl (Nat.le_of_ble_eq_true rfl) ⟨by show _ ≤ 2 * cnt tl tb (d + 1) ov s0; omega, by show _ ≤ 12 * cnt tl tb (d + 1) ov s0; omega⟩ d_Rd_readText_163 (fun rr hrr => ?_)
                  subst hrr
                  refine bz_eq (tgt := 179) hx hb d_Rd_readText_166 (by decide) (fun h30 => ?_) (fun h30 => ?_)
                  · skip
                    refine lv_null hx hb d_Rd_readText_179 ?_
                    refine lv_astoreN (lv' := [(5, .null), (4, .null), (0, .ref (X.1 3)), (1, .int (nI (11 - (d + 1)))), (2, .int (nI r)), (3, .ref qn)]) hx hb d_Rd_readText_180 hl (by decide) rfl (fun ls hl => ?_)
                    refine lv_aload_n hx hb d_Rd_readText_182 rfl (lv_at hl 2 rfl) ?_
                    refine rd_get hC in_Rd hK hM.1 3 (cw_he (by omega) (cE_3)) rfl 6 (by decide) wf_Rd_27 rfl (v := .int (nI wr)) (congrArg (fun z : Int32 => some (Value.int z)) (hR.2.2.1)) d_Rd_readText_183 ?_
                    refine nz_ne hx hb wr (by omega) d_Rd_readText_186 (tgt := 201) (by decide) (fun h31 => ?_) (fun h31 => ?_)
                    · skip
                      refine lv_null hx hb d_Rd_readText_201 ?_
                      exact hret _ _ _ none _ _ _ _ _ _ d_Rd_readText_202 rfl hM (by omega) (by omega) (rtQ_f (prs_f (rt_of (ov := ov) hR hn1 hrul (by omega))) hR.1 ⟨_, rfl⟩ hR.2.2.1 (hR.2.2.2.2.1 (by omega)).2 ⟨by show 0 < wr; omega, hR.2.2.2.1⟩)
                    · first | contradiction | (exfalso; omega)
                  · skip
                    refine lv_aload_n hx hb d_Rd_readText_169 rfl (lv_at hl 1 rfl) ?_
                    refine lv_iload_n hx hb d_Rd_readText_170 rfl (lv_at hl 2 rfl) ?_
                    refine lv_iconst (v := 1) hx hb d_Rd_readText_171 (by decide) ?_
                    refine lv_iadd hx hb d_Rd_readText_172 ?_
                    refine topi_eq (nI_add (11 - (d + 1)) 1) ?_
                    have hm9 := c_Rd_readText_f l D cT (XF X (X.2.2.2.2 ++ [(qn, .inl (cT 0, 6, .inl f1))])) I1 a (nI ((11 - (d + 1)) + 1)) wr hR.2.2.1 ⟨by omega, hR.2.2.2.1⟩
                    refine co_callq (np := 1) hC hK hM (k := 3) (by omega) (cE_3) rfl hm9 rfl ⟨wl_Rd_40, wi_Rd_readText, ws_Rd_readText, wc_Rd_readText, wn_Rd⟩ ⟨by decide, by decide, by decide +kernel⟩ ⟨by show _ ≤ 7 + (d + 1); omega, by show _ ≤ 170 + 25 * (d + 1); omega⟩ hl.1 rfl (rest := []) rfl (Nat.le_of_ble_eq_true rfl) ⟨by show _ ≤ 2 * cnt tl tb (d + 1) ov s0; omega, by show _ ≤ 12 * cnt tl tb (d + 1) ov s0; omega⟩ d_Rd_readText_173 (fun rr32 I32 a32 H locs hp32 hM => ?_)
                    obtain ⟨hr32, hp32⟩ := hp32
                    cases hp32
                    subst hr32
                    refine lv_goto (tgt := 180) hx hb d_Rd_readText_176 (by decide) ?_
                    refine lv_astoreN (lv' := [(5, .null), (4, .null), (0, .ref (X.1 3)), (1, .int (nI (11 - (d + 1)))), (2, .int (nI r)), (3, .ref qn)]) hx hb d_Rd_readText_180 hl (by decide) rfl (fun ls hl => ?_)
                    refine lv_aload_n hx hb d_Rd_readText_182 rfl (lv_at hl 2 rfl) ?_
                    refine rd_get hC in_Rd hK hM.1 3 (cw_he (by omega) (cE_3)) rfl 6 (by decide) wf_Rd_27 rfl (v := .int (nI wr)) (congrArg (fun z : Int32 => some (Value.int z)) (hR.2.2.1)) d_Rd_readText_183 ?_
                    refine nz_ne hx hb wr (by omega) d_Rd_readText_186 (tgt := 201) (by decide) (fun h33 => ?_) (fun h33 => ?_)
                    · skip
                      refine lv_null hx hb d_Rd_readText_201 ?_
                      exact hret _ _ _ none _ _ _ _ _ _ d_Rd_readText_202 rfl hM (by omega) (by omega) (rtQ_f (prs_f (rt_of (ov := ov) hR hn1 hrul (by omega))) hR.1 ⟨_, rfl⟩ hR.2.2.1 (hR.2.2.2.2.1 (by omega)).2 ⟨by show 0 < wr; omega, hR.2.2.2.1⟩)
                    · first | contradiction | (exfalso; omega)
                · skip
                  refine lv_aload_n hx hb d_Rd_readText_149 rfl (lv_at hl 0 rfl) ?_
                  refine lv_iload_n hx hb d_Rd_readText_150 rfl (lv_at hl 1 rfl) ?_
                  refine lv_iconst (v := 1) hx hb d_Rd_readText_151 (by decide) ?_
                  refine lv_iadd hx hb d_Rd_readText_152 ?_
                  refine topi_eq (nI_add (11 - (d + 1)) 1) ?_
                  have hm9 := c_Rd_readText_f l D cT (XF X (X.2.2.2.2 ++ [(qn, .inl (cT 0, 6, .inl f1))])) I1 a (nI ((11 - (d + 1)) + 1)) wr hR.2.2.1 ⟨by omega, hR.2.2.2.1⟩
                  refine co_callq (np := 1) hC hK hM (k := 3) (by omega) (cE_3) rfl hm9 rfl ⟨wl_Rd_40, wi_Rd_readText, ws_Rd_readText, wc_Rd_readText, wn_Rd⟩ ⟨by decide, by decide, by decide +kernel⟩ ⟨by show _ ≤ 7 + (d + 1); omega, by show _ ≤ 170 + 25 * (d + 1); omega⟩ hl.1 rfl (rest := []) rfl (Nat.le_of_ble_eq_true rfl) ⟨by show _ ≤ 2 * cnt tl tb (d + 1) ov s0; omega, by show _ ≤ 12 * cnt tl tb (d + 1) ov s0; omega⟩ d_Rd_readText_153 (fun rr34 I34 a34 H locs hp34 hM => ?_)
                  obtain ⟨hr34, hp34⟩ := hp34
                  cases hp34
                  subst hr34
                  refine lv_goto (tgt := 160) hx hb d_Rd_readText_156 (by decide) ?_
                  refine lv_astoreN (lv' := [(4, .null), (0, .ref (X.1 3)), (1, .int (nI (11 - (d + 1)))), (2, .int (nI r)), (3, .ref qn)]) hx hb d_Rd_readText_160 hl (by decide) rfl (fun ls hl => ?_)
                  refine lv_iload_n hx hb d_Rd_readText_162 rfl (lv_at hl 3 rfl) ?_
                  refine st_calli (np := 1) hC (c_Rd_isPair l r (by omega)) ⟨wl_Rd_59, wt_Rd_isPair, wc_Rd_isPair, wn_Rd⟩ ⟨by decide, by decide, by decide +kernel⟩ ⟨by show _ ≤ 7 + (d + 1); omega, by show _ ≤ 170 + 25 * (d + 1); omega⟩ hl.1 rfl (rest := []) rfl (Nat.le_of_ble_eq_true rfl) ⟨by show _ ≤ 2 * cnt tl tb (d + 1) ov s0; omega, by show _ ≤ 12 * cnt tl tb (d + 1) ov s0; omega⟩ d_Rd_readText_163 (fun rr hrr => ?_)
                  subst hrr
                  refine bz_eq (tgt := 179) hx hb d_Rd_readText_166 (by decide) (fun h35 => ?_) (fun h35 => ?_)
                  · skip
                    refine lv_null hx hb d_Rd_readText_179 ?_
                    refine lv_astoreN (lv' := [(5, .null), (4, .null), (0, .ref (X.1 3)), (1, .int (nI (11 - (d + 1)))), (2, .int (nI r)), (3, .ref qn)]) hx hb d_Rd_readText_180 hl (by decide) rfl (fun ls hl => ?_)
                    refine lv_aload_n hx hb d_Rd_readText_182 rfl (lv_at hl 2 rfl) ?_
                    refine rd_get hC in_Rd hK hM.1 3 (cw_he (by omega) (cE_3)) rfl 6 (by decide) wf_Rd_27 rfl (v := .int (nI wr)) (congrArg (fun z : Int32 => some (Value.int z)) (hR.2.2.1)) d_Rd_readText_183 ?_
                    refine nz_ne hx hb wr (by omega) d_Rd_readText_186 (tgt := 201) (by decide) (fun h36 => ?_) (fun h36 => ?_)
                    · skip
                      refine lv_null hx hb d_Rd_readText_201 ?_
                      exact hret _ _ _ none _ _ _ _ _ _ d_Rd_readText_202 rfl hM (by omega) (by omega) (rtQ_f (prs_f (rt_of (ov := ov) hR hn1 hrul (by omega))) hR.1 ⟨_, rfl⟩ hR.2.2.1 (hR.2.2.2.2.1 (by omega)).2 ⟨by show 0 < wr; omega, hR.2.2.2.1⟩)
                    · first | contradiction | (exfalso; omega)
                  · skip
                    refine lv_aload_n hx hb d_Rd_readText_169 rfl (lv_at hl 1 rfl) ?_
                    refine lv_iload_n hx hb d_Rd_readText_170 rfl (lv_at hl 2 rfl) ?_
                    refine lv_iconst (v := 1) hx hb d_Rd_readText_171 (by decide) ?_
                    refine lv_iadd hx hb d_Rd_readText_172 ?_
                    refine topi_eq (nI_add (11 - (d + 1)) 1) ?_
                    have hm9 := c_Rd_readText_f l D cT (XF X (X.2.2.2.2 ++ [(qn, .inl (cT 0, 6, .inl f1))])) I1 a (nI ((11 - (d + 1)) + 1)) wr hR.2.2.1 ⟨by omega, hR.2.2.2.1⟩
                    refine co_callq (np := 1) hC hK hM (k := 3) (by omega) (cE_3) rfl hm9 rfl ⟨wl_Rd_40, wi_Rd_readText, ws_Rd_readText, wc_Rd_readText, wn_Rd⟩ ⟨by decide, by decide, by decide +kernel⟩ ⟨by show _ ≤ 7 + (d + 1); omega, by show _ ≤ 170 + 25 * (d + 1); omega⟩ hl.1 rfl (rest := []) rfl (Nat.le_of_ble_eq_true rfl) ⟨by show _ ≤ 2 * cnt tl tb (d + 1) ov s0; omega, by show _ ≤ 12 * cnt tl tb (d + 1) ov s0; omega⟩ d_Rd_readText_173 (fun rr37 I37 a37 H locs hp37 hM => ?_)
                    obtain ⟨hr37, hp37⟩ := hp37
                    cases hp37
                    subst hr37
                    refine lv_goto (tgt := 180) hx hb d_Rd_readText_176 (by decide) ?_
                    refine lv_astoreN (lv' := [(5, .null), (4, .null), (0, .ref (X.1 3)), (1, .int (nI (11 - (d + 1)))), (2, .int (nI r)), (3, .ref qn)]) hx hb d_Rd_readText_180 hl (by decide) rfl (fun ls hl => ?_)
                    refine lv_aload_n hx hb d_Rd_readText_182 rfl (lv_at hl 2 rfl) ?_
                    refine rd_get hC in_Rd hK hM.1 3 (cw_he (by omega) (cE_3)) rfl 6 (by decide) wf_Rd_27 rfl (v := .int (nI wr)) (congrArg (fun z : Int32 => some (Value.int z)) (hR.2.2.1)) d_Rd_readText_183 ?_
                    refine nz_ne hx hb wr (by omega) d_Rd_readText_186 (tgt := 201) (by decide) (fun h38 => ?_) (fun h38 => ?_)
                    · skip
                      refine lv_null hx hb d_Rd_readText_201 ?_
                      exact hret _ _ _ none _ _ _ _ _ _ d_Rd_readText_202 rfl hM (by omega) (by omega) (rtQ_f (prs_f (rt_of (ov := ov) hR hn1 hrul (by omega))) hR.1 ⟨_, rfl⟩ hR.2.2.1 (hR.2.2.2.2.1 (by omega)).2 ⟨by show 0 < wr; omega, hR.2.2.2.1⟩)
                    · first | contradiction | (exfalso; omega)
            have hL82 : ∀ (nn : Nat) (i : Nat) (wr : Nat) (pl : Nat) (t : TT) (nb : Nat → Int) (I1 : Nat → Int32) (f1 : Nat → Int32) (H : Heap) (locs : List Loc) (ls : Array Slot), 6 - i < nn → i ≤ 6 → (RTI tl tb r s0 I i wr pl t nb I1 f1) → CO D cT (cA X sz) (XF X (X.2.2.2.2 ++ [(qn, .inl (cT 0, 6, .inl f1))])) I1 a s.heap H locs → lv_has ls 6 [(0, .ref (X.1 3)), (1, .int (nI (11 - (d + 1)))), (2, .int (nI r)), (3, .ref qn), (4, .int (nI i))] → W p l e (rmA (7 + (d + 1)) (170 + 25 * (d + 1)) (2 * cnt tl tb (d + 1) ov s0) (12 * cnt tl tb (d + 1) ov s0)) s m args below meth c H locs (1) (6) Q (F0 m 82 ls []) := by
              intro nn
              induction nn with
              | zero =>
                intro i wr pl t nb I1 f1 H locs ls hmeas82 hi6 hR hM hl
                exact absurd hmeas82 (Nat.not_lt_zero _)
              | succ nn ih82 =>
                intro i wr pl t nb I1 f1 H locs ls hmeas82 hi6 hR hM hl
                by_cases hw9 : wr = 0
                · skip
                  have hw41 := hR.2.2.2.1
                  refine lv_iload hx hb d_Rd_readText_82 (lv_at hl 4 rfl) ?_
                  refine lv_bipush (v := 6) hx hb d_Rd_readText_84 (by decide) ?_
                  refine nc_ge hx hb i 6 (by omega) (by omega) d_Rd_readText_86 (tgt := 144) (by decide) (fun h39 => ?_) (fun h39 => ?_)
                  · skip
                    exact hL144 i wr pl t nb I1 f1 _ _ _ (hR) (by omega) (hM) (lv_sub hl [0, 1, 2, 3] rfl)
                  · skip
                    refine lv_iload hx hb d_Rd_readText_89 (lv_at hl 4 rfl) ?_
                    refine lv_iload_n hx hb d_Rd_readText_91 rfl (lv_at hl 2 rfl) ?_
                    refine st_calli (np := 1) hC (c_Rd_numberCount l r (by omega)) ⟨wl_Rd_48, wt_Rd_numberCount, wc_Rd_numberCount, wn_Rd⟩ ⟨by decide, by decide, by decide +kernel⟩ ⟨by show _ ≤ 7 + (d + 1); omega, by show _ ≤ 170 + 25 * (d + 1); omega⟩ hl.1 rfl (rest := [.int (nI i)]) rfl (Nat.le_of_ble_eq_true rfl) ⟨by show _ ≤ 2 * cnt tl tb (d + 1) ov s0; omega, by show _ ≤ 12 * cnt tl tb (d + 1) ov s0; omega⟩ d_Rd_readText_92 (fun rr hrr => ?_)
                    subst hrr
                    refine nc_ge hx hb i (nOf r) (by omega) (by omega) d_Rd_readText_95 (tgt := 144) (by decide) (fun h40 => ?_) (fun h40 => ?_)
                    · skip
                      exact hL144 i wr pl t nb I1 f1 _ _ _ (hR) (by omega) (hM) (lv_sub hl [0, 1, 2, 3] rfl)
                    · skip
                      refine lv_iload_n hx hb d_Rd_readText_98 rfl (lv_at hl 2 rfl) ?_
                      refine lv_iconst (v := 1) hx hb d_Rd_readText_99 (by decide) ?_
                      refine nc_ne hx hb r 1 (by omega) (by omega) d_Rd_readText_100 (tgt := 118) (by decide) (fun h41 => ?_) (fun h41 => ?_)
                      · skip
                        refine lv_iload_n hx hb d_Rd_readText_118 rfl (lv_at hl 2 rfl) ?_
                        refine lv_iload hx hb d_Rd_readText_119 (lv_at hl 4 rfl) ?_
                        refine st_calli (np := 2) hC (c_Rd_leastNumber l r i (by omega) (by omega)) ⟨wl_Rd_52, wt_Rd_leastNumber, wc_Rd_leastNumber, wn_Rd⟩ ⟨by decide, by decide, by decide +kernel⟩ ⟨by show _ ≤ 7 + (d + 1); omega, by show _ ≤ 170 + 25 * (d + 1); omega⟩ hl.1 rfl (rest := []) rfl (Nat.le_of_ble_eq_true rfl) ⟨by show _ ≤ 2 * cnt tl tb (d + 1) ov s0; omega, by show _ ≤ 12 * cnt tl tb (d + 1) ov s0; omega⟩ d_Rd_readText_121 (fun rr hrr => ?_)
                        subst hrr
                        refine topi_eq (show iI (lsN r i) = iI (lowN r i nb) from by congr 1; unfold lowN lsN; (repeat' split) <;> first | rfl | omega) ?_
                        refine lv_istore (lv' := [(5, .int (iI (lowN r i nb))), (0, .ref (X.1 3)), (1, .int (nI (11 - (d + 1)))), (2, .int (nI r)), (3, .ref qn), (4, .int (nI i))]) hx hb d_Rd_readText_124 hl (by decide) rfl (fun ls hl => ?_)
                        refine lv_aload_n hx hb d_Rd_readText_126 rfl (lv_at hl 4 rfl) ?_
                        refine lv_iload hx hb d_Rd_readText_127 (lv_at hl 5 rfl) ?_
                        refine lv_aload_n hx hb d_Rd_readText_129 rfl (lv_at hl 1 rfl) ?_
                        refine lv_iload hx hb d_Rd_readText_130 (lv_at hl 0 rfl) ?_
                        refine lv_bipush (v := 20) hx hb d_Rd_readText_132 (by decide) ?_
                        refine topi_eq (show (20 : Int32) = iI 20 from rfl) ?_
                        have hm9 := c_Rd_readNumber_y l D cT (XF X (X.2.2.2.2 ++ [(qn, .inl (cT 0, 6, .inl f1))])) I1 a (lowN r i nb) adK adV N0 tl tb t (fun q9 hq9 => hAN q9 (ca_in hM q9 hq9)) ⟨(hR.1 11 (by omega)).trans hT.1, hT.2⟩ (hR.2.2.2.2.2 hw9).2.1 (hR.2.2.2.2.2 hw9).2.2.1 (by have h9 := (hR.2.2.2.2.2 hw9).2.2.2.1.1; omega) (hR.2.2.2.2.2 hw9).2.2.2.1.2 (lowN_b (hR.2.2.2.2.2 hw9).2.2.2.2.1)
                        refine cz_calli (np := 2) hC hK hM hZ hAN (k := 3) (by omega) (cE_3) rfl hm9 rfl ⟨wl_Rd_56, wi_Rd_readNumber, ws_Rd_readNumber, wc_Rd_readNumber, wn_Rd⟩ ⟨by decide, by decide, by decide +kernel⟩ ⟨by show _ ≤ 7 + (d + 1); omega, by show _ ≤ 170 + 25 * (d + 1); omega⟩ hl.1 rfl (rest := [.int (nI i), .ref qn]) rfl (Nat.le_of_ble_eq_true rfl) ⟨by show _ ≤ 2 * cnt tl tb (d + 1) ov s0; omega, by show _ ≤ 12 * cnt tl tb (d + 1) ov s0; omega⟩ d_Rd_readText_134 (fun rr42 I42 a42 H locs hp42 hM => ?_)
                        obtain ⟨hrn_p42, e1_p42⟩ := hp42
                        replace e1_p42 : a42 = a := e1_p42
                        cases e1_p42
                        replace hrn_p42 : rnQ tl tb t (lowN r i nb) I1 rr42 I42 := hrn_p42
                        have hM2 : NM D (cA X sz) (cw cT (XF X (X.2.2.2.2 ++ [(qn, .inl (cT 0, 6, .inl f1))])) I42 a) s.heap H locs := hM
                        refine nm_iast (x := rr42) hC hK hM2 (18 + 3 * X.2.2.2.1 + X.2.2.2.2.length) cw_last i (i := nI i) rfl (by omega) (by decide) d_Rd_readText_137 (fun H locs hM => ?_)
                        rw [cw_setL] at hM
                        replace hM : CO D cT (cA X sz) (XF X (X.2.2.2.2 ++ [(qn, .inl (cT 0, 6, .inl (upd f1 i rr42)))])) I42 a s.heap H locs := hM
                        refine lv_iinc (v := nI (i + 1)) (lv' := [(4, .int (nI (i + 1))), (5, .int (iI (lowN r i nb))), (0, .ref (X.1 3)), (1, .int (nI (11 - (d + 1)))), (2, .int (nI r)), (3, .ref qn)]) hx hb d_Rd_readText_138 hl (k := 5) rfl (nI_add i 1) (by decide) rfl (fun ls hl => ?_)
                        refine lv_goto (tgt := 82) hx hb d_Rd_readText_141 (by decide) ?_
                        obtain ⟨wr', pl', t', nb', hR'⟩ := rt_step h160 htb hR hw9 (by omega) hrn_p42
                        exact ih82 (i + 1) wr' pl' t' nb' I42 (upd f1 i rr42) _ _ _ (by omega) (by omega) (hR') (hM) (lv_sub hl [2, 3, 4, 5, 0] rfl)
                      · skip
                        refine lv_iload hx hb d_Rd_readText_103 (lv_at hl 4 rfl) ?_
                        refine lv_iconst (v := 3) hx hb d_Rd_readText_105 (by decide) ?_
                        refine nc_lt hx hb i 3 (by omega) (by omega) d_Rd_readText_106 (tgt := 118) (by decide) (fun h43 => ?_) (fun h43 => ?_)
                        · skip
                          refine lv_iload_n hx hb d_Rd_readText_118 rfl (lv_at hl 2 rfl) ?_
                          refine lv_iload hx hb d_Rd_readText_119 (lv_at hl 4 rfl) ?_
                          refine st_calli (np := 2) hC (c_Rd_leastNumber l r i (by omega) (by omega)) ⟨wl_Rd_52, wt_Rd_leastNumber, wc_Rd_leastNumber, wn_Rd⟩ ⟨by decide, by decide, by decide +kernel⟩ ⟨by show _ ≤ 7 + (d + 1); omega, by show _ ≤ 170 + 25 * (d + 1); omega⟩ hl.1 rfl (rest := []) rfl (Nat.le_of_ble_eq_true rfl) ⟨by show _ ≤ 2 * cnt tl tb (d + 1) ov s0; omega, by show _ ≤ 12 * cnt tl tb (d + 1) ov s0; omega⟩ d_Rd_readText_121 (fun rr hrr => ?_)
                          subst hrr
                          refine topi_eq (show iI (lsN r i) = iI (lowN r i nb) from by congr 1; unfold lowN lsN; (repeat' split) <;> first | rfl | omega) ?_
                          refine lv_istore (lv' := [(5, .int (iI (lowN r i nb))), (0, .ref (X.1 3)), (1, .int (nI (11 - (d + 1)))), (2, .int (nI r)), (3, .ref qn), (4, .int (nI i))]) hx hb d_Rd_readText_124 hl (by decide) rfl (fun ls hl => ?_)
                          refine lv_aload_n hx hb d_Rd_readText_126 rfl (lv_at hl 4 rfl) ?_
                          refine lv_iload hx hb d_Rd_readText_127 (lv_at hl 5 rfl) ?_
                          refine lv_aload_n hx hb d_Rd_readText_129 rfl (lv_at hl 1 rfl) ?_
                          refine lv_iload hx hb d_Rd_readText_130 (lv_at hl 0 rfl) ?_
                          refine lv_bipush (v := 20) hx hb d_Rd_readText_132 (by decide) ?_
                          refine topi_eq (show (20 : Int32) = iI 20 from rfl) ?_
                          have hm9 := c_Rd_readNumber_y l D cT (XF X (X.2.2.2.2 ++ [(qn, .inl (cT 0, 6, .inl f1))])) I1 a (lowN r i nb) adK adV N0 tl tb t (fun q9 hq9 => hAN q9 (ca_in hM q9 hq9)) ⟨(hR.1 11 (by omega)).trans hT.1, hT.2⟩ (hR.2.2.2.2.2 hw9).2.1 (hR.2.2.2.2.2 hw9).2.2.1 (by have h9 := (hR.2.2.2.2.2 hw9).2.2.2.1.1; omega) (hR.2.2.2.2.2 hw9).2.2.2.1.2 (lowN_b (hR.2.2.2.2.2 hw9).2.2.2.2.1)
                          refine cz_calli (np := 2) hC hK hM hZ hAN (k := 3) (by omega) (cE_3) rfl hm9 rfl ⟨wl_Rd_56, wi_Rd_readNumber, ws_Rd_readNumber, wc_Rd_readNumber, wn_Rd⟩ ⟨by decide, by decide, by decide +kernel⟩ ⟨by show _ ≤ 7 + (d + 1); omega, by show _ ≤ 170 + 25 * (d + 1); omega⟩ hl.1 rfl (rest := [.int (nI i), .ref qn]) rfl (Nat.le_of_ble_eq_true rfl) ⟨by show _ ≤ 2 * cnt tl tb (d + 1) ov s0; omega, by show _ ≤ 12 * cnt tl tb (d + 1) ov s0; omega⟩ d_Rd_readText_134 (fun rr44 I44 a44 H locs hp44 hM => ?_)
                          obtain ⟨hrn_p44, e1_p44⟩ := hp44
                          replace e1_p44 : a44 = a := e1_p44
                          cases e1_p44
                          replace hrn_p44 : rnQ tl tb t (lowN r i nb) I1 rr44 I44 := hrn_p44
                          have hM2 : NM D (cA X sz) (cw cT (XF X (X.2.2.2.2 ++ [(qn, .inl (cT 0, 6, .inl f1))])) I44 a) s.heap H locs := hM
                          refine nm_iast (x := rr44) hC hK hM2 (18 + 3 * X.2.2.2.1 + X.2.2.2.2.length) cw_last i (i := nI i) rfl (by omega) (by decide) d_Rd_readText_137 (fun H locs hM => ?_)
                          rw [cw_setL] at hM
                          replace hM : CO D cT (cA X sz) (XF X (X.2.2.2.2 ++ [(qn, .inl (cT 0, 6, .inl (upd f1 i rr44)))])) I44 a s.heap H locs := hM
                          refine lv_iinc (v := nI (i + 1)) (lv' := [(4, .int (nI (i + 1))), (5, .int (iI (lowN r i nb))), (0, .ref (X.1 3)), (1, .int (nI (11 - (d + 1)))), (2, .int (nI r)), (3, .ref qn)]) hx hb d_Rd_readText_138 hl (k := 5) rfl (nI_add i 1) (by decide) rfl (fun ls hl => ?_)
                          refine lv_goto (tgt := 82) hx hb d_Rd_readText_141 (by decide) ?_
                          obtain ⟨wr', pl', t', nb', hR'⟩ := rt_step h160 htb hR hw9 (by omega) hrn_p44
                          exact ih82 (i + 1) wr' pl' t' nb' I44 (upd f1 i rr44) _ _ _ (by omega) (by omega) (hR') (hM) (lv_sub hl [2, 3, 4, 5, 0] rfl)
                        · skip
                          refine lv_aload_n hx hb d_Rd_readText_109 rfl (lv_at hl 3 rfl) ?_
                          refine lv_iload hx hb d_Rd_readText_110 (lv_at hl 4 rfl) ?_
                          refine lv_iconst (v := 3) hx hb d_Rd_readText_112 (by decide) ?_
                          refine lv_isub hx hb d_Rd_readText_113 ?_
                          refine topi_eq (iI_sub (↑i : Int) 3) ?_
                          refine rd_iald hC hK hM.1 (18 + 3 * X.2.2.2.1 + X.2.2.2.2.length) cw_last (i - 3) (i := iI ((↑i : Int) - 3)) (by rw [nI_iI]; congr 1; omega) (by omega) (by decide) (v := iI (nb (i - 3))) ((hR.2.2.2.2.2 hw9).2.2.2.2.2 (i - 3) (by omega)) d_Rd_readText_114 ?_
                          refine lv_goto (tgt := 124) hx hb d_Rd_readText_115 (by decide) ?_
                          refine topi_eq (show iI (nb (i - 3)) = iI (lowN r i nb) from by congr 1; unfold lowN; rw [if_neg (by omega), if_neg (by omega), if_pos (by omega)]) ?_
                          refine lv_istore (lv' := [(5, .int (iI (lowN r i nb))), (0, .ref (X.1 3)), (1, .int (nI (11 - (d + 1)))), (2, .int (nI r)), (3, .ref qn), (4, .int (nI i))]) hx hb d_Rd_readText_124 hl (by decide) rfl (fun ls hl => ?_)
                          refine lv_aload_n hx hb d_Rd_readText_126 rfl (lv_at hl 4 rfl) ?_
                          refine lv_iload hx hb d_Rd_readText_127 (lv_at hl 5 rfl) ?_
                          refine lv_aload_n hx hb d_Rd_readText_129 rfl (lv_at hl 1 rfl) ?_
                          refine lv_iload hx hb d_Rd_readText_130 (lv_at hl 0 rfl) ?_
                          refine lv_bipush (v := 20) hx hb d_Rd_readText_132 (by decide) ?_
                          refine topi_eq (show (20 : Int32) = iI 20 from rfl) ?_
                          have hm9 := c_Rd_readNumber_y l D cT (XF X (X.2.2.2.2 ++ [(qn, .inl (cT 0, 6, .inl f1))])) I1 a (lowN r i nb) adK adV N0 tl tb t (fun q9 hq9 => hAN q9 (ca_in hM q9 hq9)) ⟨(hR.1 11 (by omega)).trans hT.1, hT.2⟩ (hR.2.2.2.2.2 hw9).2.1 (hR.2.2.2.2.2 hw9).2.2.1 (by have h9 := (hR.2.2.2.2.2 hw9).2.2.2.1.1; omega) (hR.2.2.2.2.2 hw9).2.2.2.1.2 (lowN_b (hR.2.2.2.2.2 hw9).2.2.2.2.1)
                          refine cz_calli (np := 2) hC hK hM hZ hAN (k := 3) (by omega) (cE_3) rfl hm9 rfl ⟨wl_Rd_56, wi_Rd_readNumber, ws_Rd_readNumber, wc_Rd_readNumber, wn_Rd⟩ ⟨by decide, by decide, by decide +kernel⟩ ⟨by show _ ≤ 7 + (d + 1); omega, by show _ ≤ 170 + 25 * (d + 1); omega⟩ hl.1 rfl (rest := [.int (nI i), .ref qn]) rfl (Nat.le_of_ble_eq_true rfl) ⟨by show _ ≤ 2 * cnt tl tb (d + 1) ov s0; omega, by show _ ≤ 12 * cnt tl tb (d + 1) ov s0; omega⟩ d_Rd_readText_134 (fun rr45 I45 a45 H locs hp45 hM => ?_)
                          obtain ⟨hrn_p45, e1_p45⟩ := hp45
                          replace e1_p45 : a45 = a := e1_p45
                          cases e1_p45
                          replace hrn_p45 : rnQ tl tb t (lowN r i nb) I1 rr45 I45 := hrn_p45
                          have hM2 : NM D (cA X sz) (cw cT (XF X (X.2.2.2.2 ++ [(qn, .inl (cT 0, 6, .inl f1))])) I45 a) s.heap H locs := hM
                          refine nm_iast (x := rr45) hC hK hM2 (18 + 3 * X.2.2.2.1 + X.2.2.2.2.length) cw_last i (i := nI i) rfl (by omega) (by decide) d_Rd_readText_137 (fun H locs hM => ?_)
                          rw [cw_setL] at hM
                          replace hM : CO D cT (cA X sz) (XF X (X.2.2.2.2 ++ [(qn, .inl (cT 0, 6, .inl (upd f1 i rr45)))])) I45 a s.heap H locs := hM
                          refine lv_iinc (v := nI (i + 1)) (lv' := [(4, .int (nI (i + 1))), (5, .int (iI (lowN r i nb))), (0, .ref (X.1 3)), (1, .int (nI (11 - (d + 1)))), (2, .int (nI r)), (3, .ref qn)]) hx hb d_Rd_readText_138 hl (k := 5) rfl (nI_add i 1) (by decide) rfl (fun ls hl => ?_)
                          refine lv_goto (tgt := 82) hx hb d_Rd_readText_141 (by decide) ?_
                          obtain ⟨wr', pl', t', nb', hR'⟩ := rt_step h160 htb hR hw9 (by omega) hrn_p45
                          exact ih82 (i + 1) wr' pl' t' nb' I45 (upd f1 i rr45) _ _ _ (by omega) (by omega) (hR') (hM) (lv_sub hl [2, 3, 4, 5, 0] rfl)
                · skip
                  have hw41 := hR.2.2.2.1
                  refine lv_iload hx hb d_Rd_readText_82 (lv_at hl 4 rfl) ?_
                  refine lv_bipush (v := 6) hx hb d_Rd_readText_84 (by decide) ?_
                  refine nc_ge hx hb i 6 (by omega) (by omega) d_Rd_readText_86 (tgt := 144) (by decide) (fun h46 => ?_) (fun h46 => ?_)
                  · skip
                    exact hL144 i wr pl t nb I1 f1 _ _ _ (hR) (by omega) (hM) (lv_sub hl [0, 1, 2, 3] rfl)
                  · skip
                    refine lv_iload hx hb d_Rd_readText_89 (lv_at hl 4 rfl) ?_
                    refine lv_iload_n hx hb d_Rd_readText_91 rfl (lv_at hl 2 rfl) ?_
                    refine st_calli (np := 1) hC (c_Rd_numberCount l r (by omega)) ⟨wl_Rd_48, wt_Rd_numberCount, wc_Rd_numberCount, wn_Rd⟩ ⟨by decide, by decide, by decide +kernel⟩ ⟨by show _ ≤ 7 + (d + 1); omega, by show _ ≤ 170 + 25 * (d + 1); omega⟩ hl.1 rfl (rest := [.int (nI i)]) rfl (Nat.le_of_ble_eq_true rfl) ⟨by show _ ≤ 2 * cnt tl tb (d + 1) ov s0; omega, by show _ ≤ 12 * cnt tl tb (d + 1) ov s0; omega⟩ d_Rd_readText_92 (fun rr hrr => ?_)
                    subst hrr
                    refine nc_ge hx hb i (nOf r) (by omega) (by omega) d_Rd_readText_95 (tgt := 144) (by decide) (fun h47 => ?_) (fun h47 => ?_)
                    · skip
                      exact hL144 i wr pl t nb I1 f1 _ _ _ (hR) (by omega) (hM) (lv_sub hl [0, 1, 2, 3] rfl)
                    · skip
                      refine lv_iload_n hx hb d_Rd_readText_98 rfl (lv_at hl 2 rfl) ?_
                      refine lv_iconst (v := 1) hx hb d_Rd_readText_99 (by decide) ?_
                      refine nc_ne hx hb r 1 (by omega) (by omega) d_Rd_readText_100 (tgt := 118) (by decide) (fun h48 => ?_) (fun h48 => ?_)
                      · skip
                        refine lv_iload_n hx hb d_Rd_readText_118 rfl (lv_at hl 2 rfl) ?_
                        refine lv_iload hx hb d_Rd_readText_119 (lv_at hl 4 rfl) ?_
                        refine st_calli (np := 2) hC (c_Rd_leastNumber l r i (by omega) (by omega)) ⟨wl_Rd_52, wt_Rd_leastNumber, wc_Rd_leastNumber, wn_Rd⟩ ⟨by decide, by decide, by decide +kernel⟩ ⟨by show _ ≤ 7 + (d + 1); omega, by show _ ≤ 170 + 25 * (d + 1); omega⟩ hl.1 rfl (rest := []) rfl (Nat.le_of_ble_eq_true rfl) ⟨by show _ ≤ 2 * cnt tl tb (d + 1) ov s0; omega, by show _ ≤ 12 * cnt tl tb (d + 1) ov s0; omega⟩ d_Rd_readText_121 (fun rr hrr => ?_)
                        subst hrr
                        refine lv_istore (lv' := [(5, .int (iI (lsN r i))), (0, .ref (X.1 3)), (1, .int (nI (11 - (d + 1)))), (2, .int (nI r)), (3, .ref qn), (4, .int (nI i))]) hx hb d_Rd_readText_124 hl (by decide) rfl (fun ls hl => ?_)
                        refine lv_aload_n hx hb d_Rd_readText_126 rfl (lv_at hl 4 rfl) ?_
                        refine lv_iload hx hb d_Rd_readText_127 (lv_at hl 5 rfl) ?_
                        refine lv_aload_n hx hb d_Rd_readText_129 rfl (lv_at hl 1 rfl) ?_
                        refine lv_iload hx hb d_Rd_readText_130 (lv_at hl 0 rfl) ?_
                        refine lv_bipush (v := 20) hx hb d_Rd_readText_132 (by decide) ?_
                        have hm9 := c_Rd_readNumber_f l D cT (XF X (X.2.2.2.2 ++ [(qn, .inl (cT 0, 6, .inl f1))])) I1 a (iI (lsN r i)) 20 wr hR.2.2.1 ⟨by omega, hR.2.2.2.1⟩
                        refine co_calli (np := 2) hC hK hM (k := 3) (by omega) (cE_3) rfl hm9 rfl ⟨wl_Rd_56, wi_Rd_readNumber, ws_Rd_readNumber, wc_Rd_readNumber, wn_Rd⟩ ⟨by decide, by decide, by decide +kernel⟩ ⟨by show _ ≤ 7 + (d + 1); omega, by show _ ≤ 170 + 25 * (d + 1); omega⟩ hl.1 rfl (rest := [.int (nI i), .ref qn]) rfl (Nat.le_of_ble_eq_true rfl) ⟨by show _ ≤ 2 * cnt tl tb (d + 1) ov s0; omega, by show _ ≤ 12 * cnt tl tb (d + 1) ov s0; omega⟩ d_Rd_readText_134 (fun rr49 I49 a49 H locs hp49 hM => ?_)
                        obtain ⟨hr49, hp49⟩ := hp49
                        cases hp49
                        subst hr49
                        have hM2 : NM D (cA X sz) (cw cT (XF X (X.2.2.2.2 ++ [(qn, .inl (cT 0, 6, .inl f1))])) I1 a) s.heap H locs := hM
                        refine nm_iast (x := 0) hC hK hM2 (18 + 3 * X.2.2.2.1 + X.2.2.2.2.length) cw_last i (i := nI i) rfl (by omega) (by decide) d_Rd_readText_137 (fun H locs hM => ?_)
                        rw [cw_setL] at hM
                        replace hM : CO D cT (cA X sz) (XF X (X.2.2.2.2 ++ [(qn, .inl (cT 0, 6, .inl (upd f1 i 0)))])) I1 a s.heap H locs := hM
                        refine lv_iinc (v := nI (i + 1)) (lv' := [(4, .int (nI (i + 1))), (5, .int (iI (lsN r i))), (0, .ref (X.1 3)), (1, .int (nI (11 - (d + 1)))), (2, .int (nI r)), (3, .ref qn)]) hx hb d_Rd_readText_138 hl (k := 5) rfl (nI_add i 1) (by decide) rfl (fun ls hl => ?_)
                        refine lv_goto (tgt := 82) hx hb d_Rd_readText_141 (by decide) ?_
                        exact ih82 (i + 1) wr pl t nb I1 (upd f1 i 0) _ _ _ (by omega) (by omega) (rt_fail hR (by omega)) (hM) (lv_sub hl [2, 3, 4, 5, 0] rfl)
                      · skip
                        refine lv_iload hx hb d_Rd_readText_103 (lv_at hl 4 rfl) ?_
                        refine lv_iconst (v := 3) hx hb d_Rd_readText_105 (by decide) ?_
                        refine nc_lt hx hb i 3 (by omega) (by omega) d_Rd_readText_106 (tgt := 118) (by decide) (fun h50 => ?_) (fun h50 => ?_)
                        · skip
                          refine lv_iload_n hx hb d_Rd_readText_118 rfl (lv_at hl 2 rfl) ?_
                          refine lv_iload hx hb d_Rd_readText_119 (lv_at hl 4 rfl) ?_
                          refine st_calli (np := 2) hC (c_Rd_leastNumber l r i (by omega) (by omega)) ⟨wl_Rd_52, wt_Rd_leastNumber, wc_Rd_leastNumber, wn_Rd⟩ ⟨by decide, by decide, by decide +kernel⟩ ⟨by show _ ≤ 7 + (d + 1); omega, by show _ ≤ 170 + 25 * (d + 1); omega⟩ hl.1 rfl (rest := []) rfl (Nat.le_of_ble_eq_true rfl) ⟨by show _ ≤ 2 * cnt tl tb (d + 1) ov s0; omega, by show _ ≤ 12 * cnt tl tb (d + 1) ov s0; omega⟩ d_Rd_readText_121 (fun rr hrr => ?_)
                          subst hrr
                          refine lv_istore (lv' := [(5, .int (iI (lsN r i))), (0, .ref (X.1 3)), (1, .int (nI (11 - (d + 1)))), (2, .int (nI r)), (3, .ref qn), (4, .int (nI i))]) hx hb d_Rd_readText_124 hl (by decide) rfl (fun ls hl => ?_)
                          refine lv_aload_n hx hb d_Rd_readText_126 rfl (lv_at hl 4 rfl) ?_
                          refine lv_iload hx hb d_Rd_readText_127 (lv_at hl 5 rfl) ?_
                          refine lv_aload_n hx hb d_Rd_readText_129 rfl (lv_at hl 1 rfl) ?_
                          refine lv_iload hx hb d_Rd_readText_130 (lv_at hl 0 rfl) ?_
                          refine lv_bipush (v := 20) hx hb d_Rd_readText_132 (by decide) ?_
                          have hm9 := c_Rd_readNumber_f l D cT (XF X (X.2.2.2.2 ++ [(qn, .inl (cT 0, 6, .inl f1))])) I1 a (iI (lsN r i)) 20 wr hR.2.2.1 ⟨by omega, hR.2.2.2.1⟩
                          refine co_calli (np := 2) hC hK hM (k := 3) (by omega) (cE_3) rfl hm9 rfl ⟨wl_Rd_56, wi_Rd_readNumber, ws_Rd_readNumber, wc_Rd_readNumber, wn_Rd⟩ ⟨by decide, by decide, by decide +kernel⟩ ⟨by show _ ≤ 7 + (d + 1); omega, by show _ ≤ 170 + 25 * (d + 1); omega⟩ hl.1 rfl (rest := [.int (nI i), .ref qn]) rfl (Nat.le_of_ble_eq_true rfl) ⟨by show _ ≤ 2 * cnt tl tb (d + 1) ov s0; omega, by show _ ≤ 12 * cnt tl tb (d + 1) ov s0; omega⟩ d_Rd_readText_134 (fun rr51 I51 a51 H locs hp51 hM => ?_)
                          obtain ⟨hr51, hp51⟩ := hp51
                          cases hp51
                          subst hr51
                          have hM2 : NM D (cA X sz) (cw cT (XF X (X.2.2.2.2 ++ [(qn, .inl (cT 0, 6, .inl f1))])) I1 a) s.heap H locs := hM
                          refine nm_iast (x := 0) hC hK hM2 (18 + 3 * X.2.2.2.1 + X.2.2.2.2.length) cw_last i (i := nI i) rfl (by omega) (by decide) d_Rd_readText_137 (fun H locs hM => ?_)
                          rw [cw_setL] at hM
                          replace hM : CO D cT (cA X sz) (XF X (X.2.2.2.2 ++ [(qn, .inl (cT 0, 6, .inl (upd f1 i 0)))])) I1 a s.heap H locs := hM
                          refine lv_iinc (v := nI (i + 1)) (lv' := [(4, .int (nI (i + 1))), (5, .int (iI (lsN r i))), (0, .ref (X.1 3)), (1, .int (nI (11 - (d + 1)))), (2, .int (nI r)), (3, .ref qn)]) hx hb d_Rd_readText_138 hl (k := 5) rfl (nI_add i 1) (by decide) rfl (fun ls hl => ?_)
                          refine lv_goto (tgt := 82) hx hb d_Rd_readText_141 (by decide) ?_
                          exact ih82 (i + 1) wr pl t nb I1 (upd f1 i 0) _ _ _ (by omega) (by omega) (rt_fail hR (by omega)) (hM) (lv_sub hl [2, 3, 4, 5, 0] rfl)
                        · skip
                          refine lv_aload_n hx hb d_Rd_readText_109 rfl (lv_at hl 3 rfl) ?_
                          refine lv_iload hx hb d_Rd_readText_110 (lv_at hl 4 rfl) ?_
                          refine lv_iconst (v := 3) hx hb d_Rd_readText_112 (by decide) ?_
                          refine lv_isub hx hb d_Rd_readText_113 ?_
                          refine topi_eq (iI_sub (↑i : Int) 3) ?_
                          refine rd_iald hC hK hM.1 (18 + 3 * X.2.2.2.1 + X.2.2.2.2.length) cw_last (i - 3) (i := iI ((↑i : Int) - 3)) (by rw [nI_iI]; congr 1; omega) (by omega) (by decide) (v := f1 (i - 3)) rfl d_Rd_readText_114 ?_
                          refine lv_goto (tgt := 124) hx hb d_Rd_readText_115 (by decide) ?_
                          refine lv_istore (lv' := [(5, .int (f1 (i - 3))), (0, .ref (X.1 3)), (1, .int (nI (11 - (d + 1)))), (2, .int (nI r)), (3, .ref qn), (4, .int (nI i))]) hx hb d_Rd_readText_124 hl (by decide) rfl (fun ls hl => ?_)
                          refine lv_aload_n hx hb d_Rd_readText_126 rfl (lv_at hl 4 rfl) ?_
                          refine lv_iload hx hb d_Rd_readText_127 (lv_at hl 5 rfl) ?_
                          refine lv_aload_n hx hb d_Rd_readText_129 rfl (lv_at hl 1 rfl) ?_
                          refine lv_iload hx hb d_Rd_readText_130 (lv_at hl 0 rfl) ?_
                          refine lv_bipush (v := 20) hx hb d_Rd_readText_132 (by decide) ?_
                          have hm9 := c_Rd_readNumber_f l D cT (XF X (X.2.2.2.2 ++ [(qn, .inl (cT 0, 6, .inl f1))])) I1 a (f1 (i - 3)) 20 wr hR.2.2.1 ⟨by omega, hR.2.2.2.1⟩
                          refine co_calli (np := 2) hC hK hM (k := 3) (by omega) (cE_3) rfl hm9 rfl ⟨wl_Rd_56, wi_Rd_readNumber, ws_Rd_readNumber, wc_Rd_readNumber, wn_Rd⟩ ⟨by decide, by decide, by decide +kernel⟩ ⟨by show _ ≤ 7 + (d + 1); omega, by show _ ≤ 170 + 25 * (d + 1); omega⟩ hl.1 rfl (rest := [.int (nI i), .ref qn]) rfl (Nat.le_of_ble_eq_true rfl) ⟨by show _ ≤ 2 * cnt tl tb (d + 1) ov s0; omega, by show _ ≤ 12 * cnt tl tb (d + 1) ov s0; omega⟩ d_Rd_readText_134 (fun rr52 I52 a52 H locs hp52 hM => ?_)
                          obtain ⟨hr52, hp52⟩ := hp52
                          cases hp52
                          subst hr52
                          have hM2 : NM D (cA X sz) (cw cT (XF X (X.2.2.2.2 ++ [(qn, .inl (cT 0, 6, .inl f1))])) I1 a) s.heap H locs := hM
                          refine nm_iast (x := 0) hC hK hM2 (18 + 3 * X.2.2.2.1 + X.2.2.2.2.length) cw_last i (i := nI i) rfl (by omega) (by decide) d_Rd_readText_137 (fun H locs hM => ?_)
                          rw [cw_setL] at hM
                          replace hM : CO D cT (cA X sz) (XF X (X.2.2.2.2 ++ [(qn, .inl (cT 0, 6, .inl (upd f1 i 0)))])) I1 a s.heap H locs := hM
                          refine lv_iinc (v := nI (i + 1)) (lv' := [(4, .int (nI (i + 1))), (5, .int (f1 (i - 3))), (0, .ref (X.1 3)), (1, .int (nI (11 - (d + 1)))), (2, .int (nI r)), (3, .ref qn)]) hx hb d_Rd_readText_138 hl (k := 5) rfl (nI_add i 1) (by decide) rfl (fun ls hl => ?_)
                          refine lv_goto (tgt := 82) hx hb d_Rd_readText_141 (by decide) ?_
                          exact ih82 (i + 1) wr pl t nb I1 (upd f1 i 0) _ _ _ (by omega) (by omega) (rt_fail hR (by omega)) (hM) (lv_sub hl [2, 3, 4, 5, 0] rfl)
            exact hL82 _ 0 (w3 (tok tl tb s0.t.2.2.1)) ((tok tl tb s0.t.2.2.1).2.1) (tok tl tb s0.t.2.2.1) (fun _ => 0) I6 (fun _ => 0) _ _ _ (Nat.lt_succ_self _) (Nat.zero_le _) (rt_init h160 htb hto hf_p6 ht_p6) (hM) (lv_sub hl [3, 4, 2, 1, 0] rfl)
          · exact absurd h5 (by decide)
        · skip
          refine lv_aload_n hx hb d_Rd_readText_37 rfl (lv_at hl 0 rfl) ?_
          refine lv_iconst (v := 2) hx hb d_Rd_readText_38 (by decide) ?_
          refine lv_aload_n hx hb d_Rd_readText_39 rfl (lv_at hl 0 rfl) ?_
          refine rd_get hC in_Rd hK hM.1 3 (cw_he (by omega) (cE_3)) rfl 3 (by decide) wf_Rd_18 rfl (v := .int (I 33)) (rfl) d_Rd_readText_40 ?_
          have hm9 := c_Rd_fail l D cT (XF X (X.2.2.2.2)) I a 2 (I 33)
          refine co_callv (np := 2) hC hK hM (k := 3) (by omega) (cE_3) rfl hm9 rfl ⟨wl_Rd_44, wi_Rd_fail, ws_Rd_fail, wc_Rd_fail, wn_Rd⟩ ⟨by decide, by decide, by decide +kernel⟩ ⟨by show _ ≤ 7 + (d + 1); omega, by show _ ≤ 170 + 25 * (d + 1); omega⟩ hl.1 rfl (rest := []) rfl (Nat.le_of_ble_eq_true rfl) ⟨by show _ ≤ 2 * cnt tl tb (d + 1) ov s0; omega, by show _ ≤ 12 * cnt tl tb (d + 1) ov s0; omega⟩ d_Rd_readText_43 (fun I53 a53 H locs hp53 hM => ?_)
          cases hp53
          refine lv_aload_n hx hb d_Rd_readText_46 rfl (lv_at hl 0 rfl) ?_
          refine rd_get hC in_Rd hK hM.1 3 (cw_he (by omega) (cE_3)) rfl 6 (by decide) wf_Rd_27 rfl (v := .int 2) (congrArg (fun z : Int32 => some (Value.int z)) ((pk_un (by omega)).trans (pk_us))) d_Rd_readText_47 ?_
          refine lv_if_eq (tgt := 55) hx hb d_Rd_readText_50 (by decide) (fun h54 => ?_) (fun h54 => ?_)
          · exact absurd h54 (by decide)
          · skip
            refine lv_null hx hb d_Rd_readText_53 ?_
            exact hret _ _ _ none _ _ _ _ _ _ d_Rd_readText_54 rfl hM (by omega) (by omega) (rtQ_f (prs_f (one_n (by omega))) (fun q9 hq9 => (pk_un (by omega)).trans (pk_un (by omega))) ⟨[], (List.append_nil _).symm⟩ rfl hg.2.2.2.1 ⟨by show 0 < 2; omega, by show 2 ≤ 4; omega⟩)
    · first | contradiction | (exfalso; omega)
