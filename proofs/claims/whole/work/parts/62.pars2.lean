/-! pure: what rows a tape's texts give -/
def WT (kd ab : Nat → Nat) : Nat → Nat → Nat → Prop
  | 0, _, _ => False
  | d + 1, k, e => (kd k < 3 ∧ e = k + 1) ∨ ((3 ≤ kd k ∧ kd k < 6) ∧ ∃ m, WT kd ab d (k + 1) m ∧ WT kd ab d m e ∧ ab (k + 1) = k ∧ ab m = k) ∨ ((6 ≤ kd k ∧ kd k ≤ 9) ∧ WT kd ab d (k + 1) e ∧ ab (k + 1) = k)
section WTS
variable {kd kd' ab ab' : Nat → Nat} {nb Bx : Nat → Nat → Int} {many : Nat}
theorem WT_lt : ∀ (d k e : Nat), WT kd ab d k e → k < e
  | 0, _, _, h => h.elim
  | d + 1, k, e, h => by
    rcases h with ⟨_, h⟩ | ⟨_, m, h1, h2, _, _⟩ | ⟨_, h1, _⟩
    · omega
    · have a1 := WT_lt d _ _ h1
      have a2 := WT_lt d _ _ h2
      omega
    · have a1 := WT_lt d _ _ h1
      omega
theorem WT_cong : ∀ (d k e : Nat), (∀ j, k ≤ j → j < e → kd' j = kd j) → (∀ j, k < j → j < e → ab' j = ab j) → WT kd ab d k e → WT kd' ab' d k e
  | 0, _, _, _, _, h => h.elim
  | d + 1, k, e, c1, c2, h => by
    have hlt := WT_lt (d + 1) k e h
    rcases h with ⟨h0, h⟩ | ⟨h0, m, h1, h2, h3, h4⟩ | ⟨h0, h1, h3⟩
    · exact Or.inl ⟨by rw [c1 k (Nat.le_refl _) hlt]; exact h0, h⟩
    · have a1 := WT_lt d _ _ h1
      have a2 := WT_lt d _ _ h2
      refine Or.inr (Or.inl ⟨by rw [c1 k (Nat.le_refl _) hlt]; exact h0, m, WT_cong d _ _ (fun j g1 g2 => c1 j (by omega) (by omega)) (fun j g1 g2 => c2 j (by omega) (by omega)) h1, WT_cong d _ _ (fun j g1 g2 => c1 j (by omega) (by omega)) (fun j g1 g2 => c2 j (by omega) (by omega)) h2, ?_, ?_⟩)
      · rw [c2 (k + 1) (by omega) (by omega)]; exact h3
      · rw [c2 m (by omega) (by omega)]; exact h4
    · have a1 := WT_lt d _ _ h1
      refine Or.inr (Or.inr ⟨by rw [c1 k (Nat.le_refl _) hlt]; exact h0, WT_cong d _ _ (fun j g1 g2 => c1 j (by omega) (by omega)) (fun j g1 g2 => c2 j (by omega) (by omega)) h1, ?_⟩)
      rw [c2 (k + 1) (by omega) (by omega)]; exact h3
theorem WT_nx : ∀ (d k e : Nat), WT kd ab d k e → nxF kd d k = e
  | 0, _, _, h => h.elim
  | d + 1, k, e, h => by
    unfold nxF
    rcases h with ⟨h0, h⟩ | ⟨h0, m, h1, h2, _, _⟩ | ⟨h0, h1, _⟩
    · rw [if_pos h0, h]
    · rw [if_neg (by omega), if_pos h0.2, WT_nx d _ _ h1, WT_nx d _ _ h2]
    · rw [if_neg (by omega), if_neg (by omega), WT_nx d _ _ h1]
theorem WT_ab : ∀ (d k e : Nat), WT kd ab d k e → ∀ j, k < j → j < e → k ≤ ab j ∧ ab j < j
  | 0, _, _, h => h.elim
  | d + 1, k, e, h => by
    intro j hj1 hj2
    rcases h with ⟨h0, h⟩ | ⟨h0, m, h1, h2, h3, h4⟩ | ⟨h0, h1, h3⟩
    · omega
    · have a1 := WT_lt d _ _ h1
      have a2 := WT_lt d _ _ h2
      rcases (show j = k + 1 ∨ (k + 1 < j ∧ j < m) ∨ j = m ∨ m < j by omega) with e1 | e1 | e1 | e1
      · rw [e1, h3]; omega
      · have := WT_ab d _ _ h1 j e1.1 e1.2; omega
      · rw [e1, h4]; omega
      · have := WT_ab d _ _ h2 j e1 hj2; omega
    · rcases (show j = k + 1 ∨ k + 1 < j by omega) with e1 | e1
      · rw [e1, h3]; omega
      · have := WT_ab d _ _ h1 j e1 hj2; omega
theorem pln_at {k : Nat} (h : k < many) : pln kd many (many - k) = if kd k < 3 then pln kd many (many - (k + 1)) + 1 else if kd k < 6 then pln kd many (many - (k + 1)) - 1 else pln kd many (many - (k + 1)) := by
  rw [show many - k = (many - (k + 1)) + 1 by omega]
  show (if kd (many - (many - (k + 1) + 1)) < 3 then _ else if kd (many - (many - (k + 1) + 1)) < 6 then _ else _) = _
  rw [show many - (many - (k + 1) + 1) = k by omega]
theorem WT_pln : ∀ (d k e : Nat), WT kd ab d k e → e ≤ many → pln kd many (many - k) = pln kd many (many - e) + 1 ∧ ∀ n, many - e ≤ n → n < many - k → 3 ≤ kd (many - (n + 1)) → kd (many - (n + 1)) < 6 → 2 ≤ pln kd many n
  | 0, _, _, h, _ => h.elim
  | d + 1, k, e, h, he => by
    have hlt := WT_lt (d + 1) k e h
    rw [pln_at (by omega)]
    rcases h with ⟨h0, h⟩ | ⟨h0, m, h1, h2, h3, h4⟩ | ⟨h0, h1, h3⟩
    · rw [if_pos h0, h]
      refine ⟨rfl, fun n g1 g2 g3 g4 => ?_⟩
      rw [show many - (n + 1) = k by omega] at g3
      omega
    · have a1 := WT_lt d _ _ h1
      have a2 := WT_lt d _ _ h2
      have p1 := WT_pln d _ _ h1 (by omega)
      have p2 := WT_pln d _ _ h2 he
      rw [if_neg (by omega), if_pos h0.2]
      refine ⟨by omega, fun n g1 g2 g3 g4 => ?_⟩
      rcases (show n = many - (k + 1) ∨ (n < many - (k + 1) ∧ many - m ≤ n) ∨ n < many - m by omega) with c | c | c
      · rw [c]; omega
      · exact p1.2 n c.2 c.1 g3 g4
      · exact p2.2 n g1 c g3 g4
    · have a1 := WT_lt d _ _ h1
      have p1 := WT_pln d _ _ h1 he
      rw [if_neg (by omega), if_neg (by omega)]
      refine ⟨p1.1, fun n g1 g2 g3 g4 => ?_⟩
      rcases (show n = many - (k + 1) ∨ n < many - (k + 1) by omega) with c | c
      · rw [c, show many - (many - (k + 1) + 1) = k by omega] at g4
        omega
      · exact p1.2 n g1 c g3 g4
theorem pil_at {k : Nat} (h : k < many) : pil kd nb Bx many (many - k) = stp (kd k) (lfL (kd k) (nb k) (Bx k), lfH (kd k) (nb k) (Bx k)) (pil kd nb Bx many (many - (k + 1))) := by
  rw [show many - k = (many - (k + 1)) + 1 by omega]
  exact pil_succ (by omega)
theorem dn_id {k : Nat} {n B : Nat → Int} (h : k < 6) : dn k n B = B := by
  funext i
  unfold dn
  rw [if_neg (by omega), if_neg (by omega), if_neg (by omega), if_neg (by omega)]
theorem WT_pil : ∀ (d k e : Nat), WT kd ab d k e → e ≤ many → (∀ j, k < j → j < e → Bx j = dn (kd (ab j)) (nb (ab j)) (Bx (ab j))) → pil kd nb Bx many (many - k) = evF kd nb d k (Bx k) :: pil kd nb Bx many (many - e)
  | 0, _, _, h, _, _ => h.elim
  | d + 1, k, e, h, he, hB => by
    have hlt := WT_lt (d + 1) k e h
    rw [pil_at (by omega)]
    unfold evF
    rcases h with ⟨h0, h⟩ | ⟨h0, m, h1, h2, h3, h4⟩ | ⟨h0, h1, h3⟩
    · rw [if_pos h0, stp_leaf h0, h]
    · have a1 := WT_lt d _ _ h1
      have a2 := WT_lt d _ _ h2
      have p1 := WT_pil d _ _ h1 (by omega) (fun j g1 g2 => hB j (by omega) (by omega))
      have p2 := WT_pil d _ _ h2 he (fun j g1 g2 => hB j (by omega) (by omega))
      have e1 : Bx (k + 1) = Bx k := by rw [hB (k + 1) (by omega) (by omega), h3, dn_id h0.2]
      have e2 : Bx m = Bx k := by rw [hB m (by omega) (by omega), h4, dn_id h0.2]
      rw [if_neg (by omega), if_pos h0.2, p1, p2, stp_two (by omega) h0.2, WT_nx d _ _ h1, e1, e2]
    · have a1 := WT_lt d _ _ h1
      have p1 := WT_pil d _ _ h1 he (fun j g1 g2 => hB j (by omega) (by omega))
      have e1 : Bx (k + 1) = dn (kd k) (nb k) (Bx k) := by rw [hB (k + 1) (by omega) (by omega), h3]
      rw [if_neg (by omega), if_neg (by omega), p1, stp_one (by omega) (by omega), e1]
theorem WT_spn (hm : many ≤ 64) (h : WT kd ab 10 0 many) (B : Nat → Int) : evF kd nb 10 0 B = spn kd nb ab many B := by
  have hb : ∀ k, 0 < k → k < many → ab k < k := fun k h1 h2 => (WT_ab 10 0 many h k h1 h2).2
  have e := WT_pil (nb := nb) (Bx := bxr kd nb ab B 64) 10 0 many h (Nat.le_refl _) (fun j h1 h2 => bxr_step hb hm h1 h2)
  unfold spn
  rw [Nat.sub_zero] at e
  rw [e]
  rfl
end WTS
def RowOk (kd : Nat → Nat) (nb : Nat → Nat → Int) (j : Nat) : Prop := kd j ≤ 9 ∧ (∀ i, -20 ≤ nb j i ∧ nb j i ≤ 20) ∧ (kd j = 9 → 1 ≤ nb j 0) ∧ ∀ i, nOf (kd j) ≤ i → nb j i = 0
section POK
variable {tl : Nat} {tb : Nat → Nat}
theorem numP_ok (h4 : tl ≤ 400) {r : Nat} : ∀ (m i : Nat) (t : TT) (nb : Nat → Int) (q : TT × (Nat → Int)), TKo tl tb t → (∀ j, -20 ≤ nb j ∧ nb j ≤ 20) → numP tl tb r m i t nb = .inr q → (∀ j, -20 ≤ q.2 j ∧ q.2 j ≤ 20) ∧ (∀ j, j < i ∨ i + m ≤ j → q.2 j = nb j) ∧ (r = 9 → 1 ≤ m → 1 ≤ q.2 i) ∧ ¬ q.1.1 = 3 ∧ TKo tl tb q.1 ∧ (q.1 = t ∨ t.2.1 + 1 ≤ q.1.2.1)
  | 0, i, t, nb, q, ht, hn, h => by
    unfold numP at h
    by_cases c : t.1 = 3
    · rw [if_pos c] at h; cases h
    · rw [if_neg c] at h
      cases h
      exact ⟨hn, fun _ _ => rfl, fun _ z => by omega, c, ht, Or.inl rfl⟩
  | m + 1, i, t, nb, q, ht, hn, h => by
    unfold numP at h
    by_cases c : t.1 = 3
    · rw [if_pos c] at h; cases h
    · rw [if_neg c] at h
      by_cases c2 : t.1 = 2
      · rw [if_neg (fun z => z c2)] at h
        by_cases c3 : lowN r i nb ≤ t.2.2.2 ∧ t.2.2.2 ≤ 20
        · rw [if_neg (fun z => z c3)] at h
          have hk := tok_ok (tb := tb) h4 ht.2.1
          have hl : -20 ≤ lowN r i nb := by
            unfold lowN
            split
            · omega
            · split
              · omega
              · split
                · exact (hn _).1
                · omega
          obtain ⟨g1, g2, g3, g4, g5, g6⟩ := numP_ok h4 m (i + 1) _ _ q hk.1 (fun j => by
            by_cases e : j = i
            · rw [if_pos e]; omega
            · rw [if_neg e]; exact hn j) h
          refine ⟨g1, fun j hj => ?_, fun z1 z2 => ?_, g4, g5, Or.inr ?_⟩
          · rw [g2 j (by omega), if_neg (by omega)]
          · rw [g2 i (by omega), if_pos rfl]
            have : lowN r i nb = 1 := by
              unfold lowN
              rw [if_neg (by omega), if_pos z1]
            omega
          · have p1 := ht.2.2.2 c2
            rcases g6 with g6 | g6
            · rw [g6]; omega
            · omega
        · rw [if_pos c3] at h; cases h
      · rw [if_pos c2] at h; cases h
theorem oneP_ok (h4 : tl ≤ 400) {ov : Nat} {s s1 : PS} (ht : TKo tl tb s.t) (h : oneP tl tb ov s = .inr s1) : ∃ q : TT × (Nat → Int), s1 = putR s ov q ∧ s.t.1 = 1 ∧ rul s ≤ 9 ∧ ¬ q.1.1 = 3 ∧ (∀ i, -20 ≤ q.2 i ∧ q.2 i ≤ 20) ∧ (rul s = 9 → 1 ≤ q.2 0) ∧ (∀ i, nOf (rul s) ≤ i → q.2 i = 0) ∧ TKo tl tb q.1 ∧ s.t.2.1 + 2 ≤ q.1.2.1 ∧ (q.1.1 = 1 → s.t.2.1 + 3 ≤ q.1.2.1) := by
  unfold oneP at h
  by_cases c : s.t.1 = 1
  · rw [if_neg (fun z => z c)] at h
    cases hn : numP tl tb (rul s) (nOf (rul s)) 0 (tok tl tb s.t.2.2.1) (fun _ => 0) with
    | inl f => rw [hn] at h; cases h
    | inr q =>
      rw [hn] at h
      cases h
      obtain ⟨b1, b2, b3, b4, k, b5, b6⟩ := ht.2.2.1 c
      have hk := tok_ok (tb := tb) h4 ht.2.1
      obtain ⟨g1, g2, g3, g4, g5, g6⟩ := numP_ok h4 _ _ _ _ q hk.1 (fun _ => by omega) hn
      have hr : rul s ≤ 9 := by unfold rul; omega
      refine ⟨q, rfl, c, hr, g4, g1, fun z => g3 z (by rw [z]; decide), fun i hi => g2 i (by omega), g5, ?_, fun z => ?_⟩
      · rcases g6 with g6 | g6
        · rw [g6]; omega
        · omega
      · rcases g6 with g6 | g6
        · have h7 := (g5.2.2.1 z).2.2.2.1
          rw [g6] at h7 ⊢
          by_cases e : (tok tl tb s.t.2.2.1).2.1 = s.t.2.2.1
          · rw [e, b3] at h7; cases h7
          · omega
        · omega
  · rw [if_pos c] at h; cases h
theorem prs_ok (h4 : tl ≤ 400) : ∀ (d ov : Nat) (s s' : PS), TKo tl tb s.t → prs tl tb d ov s = .inr s' → WT s'.kd s'.ab d s.many s'.many ∧ (∀ j, j < s.many → s'.kd j = s.kd j ∧ s'.nb j = s.nb j ∧ s'.ab j = s.ab j) ∧ s'.ab s.many = ov ∧ (∀ j, s.many ≤ j → j < s'.many → RowOk s'.kd s'.nb j) ∧ ¬ s'.t.1 = 3 ∧ TKo tl tb s'.t ∧ s'.kd s.many = rul s
  | 0, _, _, _, _, h => by cases h
  | d + 1, ov, s, s', ht, h => by
    unfold prs at h
    cases ho : oneP tl tb ov s with
    | inl f => rw [ho] at h; cases h
    | inr s1 =>
      rw [ho] at h
      obtain ⟨q, rfl, c1, c2, c3, c4, c5, c6, c7, c8, c9⟩ := oneP_ok h4 ht ho
      have k1 : (putR s ov q).kd s.many = rul s := if_pos rfl
      have k2 : (putR s ov q).nb s.many = q.2 := if_pos rfl
      have k3 : (putR s ov q).ab s.many = ov := if_pos rfl
      have kl : ∀ j, j < s.many → (putR s ov q).kd j = s.kd j ∧ (putR s ov q).nb j = s.nb j ∧ (putR s ov q).ab j = s.ab j := fun j hj => ⟨if_neg (by omega), if_neg (by omega), if_neg (by omega)⟩
      have km : (putR s ov q).many = s.many + 1 := rfl
      have kr : RowOk (putR s ov q).kd (putR s ov q).nb s.many := by
        unfold RowOk
        rw [k1, k2]
        exact ⟨c2, c4, c5, c6⟩
      have hq : TKo tl tb (putR s ov q).t := c7
      by_cases h3 : rul s < 3
      · have h : Sum.inr (putR s ov q) = (Sum.inr s' : FA ⊕ PS) := by
          have h' : (if rul s < 3 then Sum.inr (putR s ov q) else _) = Sum.inr s' := h
          rw [if_pos h3] at h'
          exact h'
        cases h
        refine ⟨Or.inl ⟨by rw [k1]; exact h3, rfl⟩, kl, k3, fun j j1 j2 => ?_, c3, c7, k1⟩
        rw [show j = s.many by omega]
        exact kr
      · by_cases h6 : rul s < 6
        · have h : (match prs tl tb d s.many (putR s ov q) with
            | .inl f => .inl f
            | .inr s2 => prs tl tb d s.many s2) = (Sum.inr s' : FA ⊕ PS) := by
            have h' : (if rul s < 3 then Sum.inr (putR s ov q) else if rul s < 6 then _ else _) = Sum.inr s' := h
            rw [if_neg h3, if_pos h6] at h'
            exact h'
          cases hp : prs tl tb d s.many (putR s ov q) with
          | inl f => rw [hp] at h; cases h
          | inr s2 =>
            rw [hp] at h
            obtain ⟨a1, a2, a3, a4, a5, a6, a7⟩ := prs_ok h4 d s.many _ s2 hq hp
            obtain ⟨b1, b2, b3, b4, b5, b6, b7⟩ := prs_ok h4 d s.many s2 s' a6 h
            rw [km] at a1 a2 a3 a4 a7
            have l1 := WT_lt _ _ _ a1
            have l2 := WT_lt _ _ _ b1
            have e0 := b2 s.many (by omega)
            have e1 := a2 s.many (by omega)
            have ek : s'.kd s.many = rul s := by rw [e0.1, e1.1, k1]
            refine ⟨Or.inr (Or.inl ⟨by rw [ek]; omega, s2.many, WT_cong d _ _ (fun j g1 g2 => (b2 j (by omega)).1) (fun j g1 g2 => (b2 j (by omega)).2.2) a1, b1, ?_, b3⟩), fun j hj => ?_, ?_, fun j j1 j2 => ?_, b5, b6, ek⟩
            · rw [(b2 (s.many + 1) (by omega)).2.2, a3]
            · have g1 := b2 j (by omega)
              have g2 := a2 j (by omega)
              have g3 := kl j hj
              exact ⟨by rw [g1.1, g2.1, g3.1], by rw [g1.2.1, g2.2.1, g3.2.1], by rw [g1.2.2, g2.2.2, g3.2.2]⟩
            · rw [e0.2.2, e1.2.2, k3]
            · by_cases j3 : s2.many ≤ j
              · exact b4 j j3 j2
              · have g1 := b2 j (by omega)
                unfold RowOk
                rw [g1.1, g1.2.1]
                by_cases j4 : j = s.many
                · rw [j4, e1.1, e1.2.1]; exact kr
                · exact a4 j (by omega) (by omega)
        · have h : prs tl tb d s.many (putR s ov q) = Sum.inr s' := by
            have h' : (if rul s < 3 then Sum.inr (putR s ov q) else if rul s < 6 then _ else prs tl tb d s.many (putR s ov q)) = Sum.inr s' := h
            rw [if_neg h3, if_neg h6] at h'
            exact h'
          obtain ⟨a1, a2, a3, a4, a5, a6, a7⟩ := prs_ok h4 d s.many _ s' hq h
          rw [km] at a1 a2 a3 a4 a7
          have e1 := a2 s.many (by omega)
          have ek : s'.kd s.many = rul s := by rw [e1.1, k1]
          refine ⟨Or.inr (Or.inr ⟨by rw [ek]; omega, a1, a3⟩), fun j hj => ?_, by rw [e1.2.2, k3], fun j j1 j2 => ?_, a5, a6, ek⟩
          · have g2 := a2 j (by omega)
            have g3 := kl j hj
            exact ⟨by rw [g2.1, g3.1], by rw [g2.2.1, g3.2.1], by rw [g2.2.2, g3.2.2]⟩
          · by_cases j4 : j = s.many
            · unfold RowOk
              rw [j4, e1.1, e1.2.1]; exact kr
            · exact a4 j (by omega) j2
def QQ (s : PS) : Prop := 3 * s.many ≤ s.t.2.1 + 1 ∧ (s.t.1 = 1 → 3 * s.many ≤ s.t.2.1)
theorem one_q (h4 : tl ≤ 400) {ov : Nat} {s s1 : PS} (ht : TKo tl tb s.t) (hq : QQ s) (h : oneP tl tb ov s = .inr s1) : QQ s1 ∧ TKo tl tb s1.t ∧ s1.many = s.many + 1 := by
  obtain ⟨q, rfl, c1, c2, c3, c4, c5, c6, c7, c8, c9⟩ := oneP_ok h4 ht h
  have h1 := hq.2 c1
  refine ⟨⟨?_, fun z => ?_⟩, c7, rfl⟩
  · show 3 * (s.many + 1) ≤ q.1.2.1 + 1
    omega
  · have := c9 z
    show 3 * (s.many + 1) ≤ q.1.2.1
    omega
theorem cnt_n {d ov : Nat} {s : PS} (c : ¬ s.t.1 = 1) : cnt tl tb (d + 1) ov s = 0 := by
  rw [cnt]
  exact if_pos c
theorem cnt_f {d ov : Nat} {s : PS} {f : FA} (c : s.t.1 = 1) (ho : oneP tl tb ov s = .inl f) : cnt tl tb (d + 1) ov s = 1 := by
  rw [cnt]
  rw [if_neg (fun z => z c), ho]
  rfl
theorem cnt_0 {d ov : Nat} {s s1 : PS} (c : s.t.1 = 1) (ho : oneP tl tb ov s = .inr s1) (h : rul s < 3) : cnt tl tb (d + 1) ov s = 1 := by
  rw [cnt]
  rw [if_neg (fun z => z c), ho]
  show 1 + (if rul s < 3 then 0 else _) = 1
  rw [if_pos h]
theorem cnt_1 {d ov : Nat} {s s1 : PS} (c : s.t.1 = 1) (ho : oneP tl tb ov s = .inr s1) (h : ¬ rul s < 6) : cnt tl tb (d + 1) ov s = 1 + cnt tl tb d s.many s1 := by
  rw [cnt]
  rw [if_neg (fun z => z c), ho]
  show 1 + (if rul s < 3 then 0 else if rul s < 6 then _ else _) = _
  rw [if_neg (by omega), if_neg h]
theorem cnt_2f {d ov : Nat} {s s1 : PS} {f : FA} (c : s.t.1 = 1) (ho : oneP tl tb ov s = .inr s1) (h3 : ¬ rul s < 3) (h : rul s < 6) (hp : prs tl tb d s.many s1 = .inl f) : cnt tl tb (d + 1) ov s = 1 + cnt tl tb d s.many s1 := by
  rw [cnt]
  rw [if_neg (fun z => z c), ho]
  show 1 + (if rul s < 3 then 0 else if rul s < 6 then _ else _) = _
  rw [if_neg h3, if_pos h, hp]
  rfl
theorem cnt_2 {d ov : Nat} {s s1 s2 : PS} (c : s.t.1 = 1) (ho : oneP tl tb ov s = .inr s1) (h3 : ¬ rul s < 3) (h : rul s < 6) (hp : prs tl tb d s.many s1 = .inr s2) : cnt tl tb (d + 1) ov s = 1 + (cnt tl tb d s.many s1 + cnt tl tb d s.many s2) := by
  rw [cnt]
  rw [if_neg (fun z => z c), ho]
  show 1 + (if rul s < 3 then 0 else if rul s < 6 then _ else _) = _
  rw [if_neg h3, if_pos h, hp]
theorem one_n {ov : Nat} {s : PS} (c : ¬ s.t.1 = 1) : oneP tl tb ov s = .inl (2, s.t.2.1) := by
  unfold oneP
  rw [if_pos c]
theorem prs_q (h4 : tl ≤ 160) : ∀ (d ov : Nat) (s : PS), TKo tl tb s.t → QQ s → s.many ≤ 54 → s.many + cnt tl tb d ov s ≤ 54 ∧ ∀ s', prs tl tb d ov s = .inr s' → QQ s' ∧ TKo tl tb s'.t ∧ s'.many = s.many + cnt tl tb d ov s
  | 0, _, s, _, _, h => ⟨h, fun _ h => by cases h⟩
  | d + 1, ov, s, ht, hq, hm => by
    by_cases c : s.t.1 = 1
    · have hb := (ht.2.2.1 c).1
      have hq1 := hq.2 c
      cases ho : oneP tl tb ov s with
      | inl f =>
        rw [cnt_f c ho, prs_f ho]
        exact ⟨by omega, fun _ h => by cases h⟩
      | inr s1 =>
        obtain ⟨q1, q2, q3⟩ := one_q (by omega) ht hq ho
        have q1b : s1.many ≤ 54 := by omega
        by_cases h3 : rul s < 3
        · rw [cnt_0 c ho h3, prs_0 ho h3]
          refine ⟨by omega, fun s' h => ?_⟩
          cases h
          exact ⟨q1, q2, q3⟩
        · obtain ⟨a1, a2⟩ := prs_q h4 d s.many s1 q2 q1 q1b
          by_cases h6 : rul s < 6
          · rw [prs_2 ho h3 h6]
            cases hp : prs tl tb d s.many s1 with
            | inl f =>
              rw [cnt_2f c ho h3 h6 hp]
              exact ⟨by omega, fun _ h => by cases h⟩
            | inr s2 =>
              obtain ⟨b1, b2, b3⟩ := a2 s2 hp
              have b4 : s2.many ≤ 54 := by omega
              obtain ⟨e1, e2⟩ := prs_q h4 d s.many s2 b2 b1 b4
              rw [cnt_2 c ho h3 h6 hp]
              refine ⟨by omega, fun s' h => ?_⟩
              obtain ⟨g1, g2, g3⟩ := e2 s' h
              exact ⟨g1, g2, by omega⟩
          · rw [prs_1 ho h6, cnt_1 c ho h6]
            refine ⟨by omega, fun s' h => ?_⟩
            obtain ⟨g1, g2, g3⟩ := a2 s' h
            exact ⟨g1, g2, by omega⟩
    · rw [cnt_n c, prs_f (one_n c)]
      exact ⟨by omega, fun _ h => by cases h⟩
theorem s00_ok (h4 : tl ≤ 160) : TKo tl tb (s00 tl tb).t ∧ QQ (s00 tl tb) := by
  have := tok_ok (tl := tl) (tb := tb) (p := 0) (by omega) (by omega)
  exact ⟨this.1, by show 3 * 0 ≤ _; omega, fun _ => by show 3 * 0 ≤ _; omega⟩
/-- the texts' own rows, as both sides keep them -/
def txt (s : PS) : TX := (s.many, s.kd, fun k i => if k < s.many then s.nb k i else 0, s.ab)
theorem prW_ok (h4 : tl ≤ 160) {s : PS} (h : prW tl tb = .inr s) : prs tl tb 10 0 (s00 tl tb) = .inr s ∧ WT s.kd s.ab 10 0 s.many ∧ s.many ≤ 54 ∧ (∀ j, j < s.many → RowOk s.kd s.nb j) := by
  unfold prW at h
  by_cases c : (tok tl tb 0).1 = 3
  · rw [if_pos c] at h; cases h
  · rw [if_neg c] at h
    cases hp : prs tl tb 10 0 (s00 tl tb) with
    | inl f => rw [hp] at h; cases h
    | inr s2 =>
      rw [hp] at h
      have h : (if ¬ s2.t.1 = 0 then Sum.inl (2, s2.t.2.1) else Sum.inr s2) = (Sum.inr s : FA ⊕ PS) := h
      by_cases c2 : s2.t.1 = 0
      · rw [if_neg (fun z => z c2)] at h
        cases h
        obtain ⟨k1, k2⟩ := s00_ok (tb := tb) h4
        obtain ⟨a1, a2, a3, a4, _⟩ := prs_ok (by omega) 10 0 _ s k1 hp
        have b6 : (s00 tl tb).many = 0 := rfl
        obtain ⟨b1, b2⟩ := prs_q h4 10 0 _ k1 k2 (by omega)
        obtain ⟨_, _, b5⟩ := b2 s hp
        rw [b6] at b1 b5 a1 a4
        exact ⟨rfl, a1, by omega, fun j hj => a4 j (by omega) hj⟩
      · rw [if_pos c2] at h; cases h
end POK
