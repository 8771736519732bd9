/-! the flood, pure: a piece's beginning and end -/
theorem neg_nI {m : Nat} (h0 : 0 < m) (h : m < 4294967296) : -(nI m) = nI (4294967296 - m) := by
  apply Int32.toBitVec_inj.mp
  show -(BitVec.ofNat 32 m) = BitVec.ofNat 32 (4294967296 - m)
  apply BitVec.eq_of_toNat_eq
  rw [BitVec.toNat_neg, BitVec.toNat_ofNat, BitVec.toNat_ofNat]
  omega
theorem lb_bit {x : Int32} (hx : B15 x) (hz : ¬ x = 0) : ∃ t, (1 ≤ t ∧ t ≤ 15) ∧ bt x t = true ∧ (∀ j, j < t → bt x j = false) ∧ ∀ i, i < 32 → bt (x &&& (-x)) i = decide (i = t) := by
  obtain ⟨m, hm, rfl⟩ := lo16_n (B15_lo hx)
  have h0 : 0 < m := by
    rcases Nat.eq_zero_or_pos m with q | q
    · rw [q] at hz; exact absurd rfl hz
    · exact q
  have hb := tz_bit 16 m h0 hm
  have ht := tz_lt 16 m h0 hm
  have hp := tz_pred 16 m h0 hm
  have b1 : bt (nI m) (tzf 16 m) = true := by rw [bt_nI (by omega)]; exact hb.1
  refine ⟨tzf 16 m, hx _ b1, b1, fun j hj => by rw [bt_nI (by omega)]; exact hb.2 j hj, fun i hi => ?_⟩
  rw [b_and, neg_nI h0 (by omega), bt_nI (by omega), bt_nI (by omega)]
  have e : (4294967296 - m).testBit i = (decide (i < 32) && !(m - 1).testBit i) := by
    have := Nat.testBit_two_pow_sub_succ (x := m - 1) (n := 32) (by omega) i
    rwa [show 2 ^ 32 - (m - 1 + 1) = 4294967296 - m by omega] at this
  rw [e, decide_eq_true hi, Bool.true_and, hp i]
  by_cases a : i < tzf 16 m
  · rw [if_pos a, hb.2 i a, decide_eq_false (by omega)]; rfl
  · rw [if_neg a]
    by_cases c : i = tzf 16 m
    · rw [if_pos c, decide_eq_true c, c, hb.1]; rfl
    · rw [if_neg c, decide_eq_false c]; cases m.testBit i <;> rfl
theorem rpl_sp {q : Nat} (h : q < 225) : rpl (spY q) (spZ q) = (q : Int) := by
  unfold rpl spY spZ
  rw [if_pos (by omega)]
  omega
theorem nz_zero {P : Nat → Int32} (h : ∀ q, q < 225 → P q = 0) : cn (nzP P) 225 = 0 := by
  rw [cn_cong (p := nzP P) (q := fun _ => false) (fun k hk => decide_eq_false (fun z => z (h k hk))), cn_zero]
theorem TI_init {L PD SK : Nat → Int32} {lr : Nat} (hL : R15 L) (hP : ∀ q, q < 225 → PD q = 0) (hlr : lr < 225) (hz : ∀ q, q < lr → L q = 0) (hnz : ¬ L lr = 0) : ∃ f, f < 3375 ∧ bl L f = true ∧ (∀ j, j < f → bl L j = false) ∧ ∀ (L' P' S' : Nat → Int32) (n' : Nat), (L', P', S', n') = tkF (L, PD, SK, 0) (spY lr) (spZ lr) (L lr &&& (-(L lr))) → TI (bl L) f L' P' S' n' 0 0 0 := by
  obtain ⟨t, ht, h1, h2, h3⟩ := lb_bit (hL lr hlr) hnz
  have hf : bl L (15 * lr + (t - 1)) = true := by
    unfold bl
    rw [show (15 * lr + (t - 1)) / 15 = lr by omega, show (15 * lr + (t - 1)) % 15 + 1 = t by omega]
    exact h1
  refine ⟨15 * lr + (t - 1), by omega, hf, fun j hj => ?_, ?_⟩
  · by_cases e : j / 15 = lr
    · unfold bl
      rw [e]
      exact h2 _ (by omega)
    · exact z_bl (hz _ (by omega))
  · intro L' P' S' n' hr
    have hh : ∀ k, k < 3375 → hit (spY lr) (spZ lr) (L lr &&& (-(L lr))) k = decide (k = 15 * lr + (t - 1)) := by
      intro k hk
      unfold hit
      rw [rpl_sp hlr, h3 _ (by omega)]
      by_cases e : k = 15 * lr + (t - 1)
      · rw [decide_eq_true e, decide_eq_true (by omega), decide_eq_true (by omega)]; rfl
      · rw [decide_eq_false e]
        by_cases e2 : (lr : Int) = (↑(k / 15) : Int)
        · rw [decide_eq_true e2, decide_eq_false (by omega)]; rfl
        · rw [decide_eq_false e2]; rfl
    have hP15 : R15 PD := fun q hq => by rw [hP q hq]; exact B15_0
    have a1 := tkF_15 hr hL hP15
    have s1 := tkF_stk hr ⟨nz_zero hP, fun i hi => absurd hi (Nat.not_lt_zero _), fun i j _ hj => absurd hj (Nat.not_lt_zero _)⟩
    have hbL : ∀ k, k < 3375 → bl L' k = (bl L k && !decide (k = 15 * lr + (t - 1))) := fun k hk => by rw [show bl L' k = _ from (tkF_bl hr hk).1, hh k hk]
    have hbP : ∀ k, k < 3375 → bl P' k = decide (k = 15 * lr + (t - 1)) := fun k hk => by
      rw [show bl P' k = _ from (tkF_bl hr hk).2, hh k hk]
      show (bl PD k || (bl L k && decide (k = 15 * lr + (t - 1)))) = _
      rw [z_bl (hP _ (by omega)), Bool.false_or]
      by_cases e : k = 15 * lr + (t - 1)
      · rw [e, hf]; rfl
      · rw [decide_eq_false e, Bool.and_false]
    have hg : ∀ k, k < 3375 → gst (bl L) L' P' k = false := fun k hk => by
      unfold gst
      rw [hbL k hk, hbP k hk]
      by_cases e : k = 15 * lr + (t - 1)
      · rw [decide_eq_true e]; simp
      · rw [decide_eq_false e]; cases bl L k <;> rfl
    have hLf : bl L' (15 * lr + (t - 1)) = false := by rw [hbL _ (by omega), decide_eq_true rfl]; simp
    refine ⟨⟨a1.1, a1.2, s1⟩, ⟨by omega, hf, hLf⟩, ?_, ?_, ?_, ?_, ?_, Nat.le_refl _, Or.inr ⟨rfl, ?_⟩⟩
    · intro k hk hb
      rw [hbP k hk]
      refine decide_eq_false (fun e => ?_)
      rw [e, hLf] at hb
      cases hb
    · intro k hk hb
      rcases hb with hb | hb
      · rw [hbL k hk] at hb
        exact ((Bool.and_eq_true _ _).mp hb).1
      · rw [hbP k hk] at hb
        rw [of_decide_eq_true hb]
        exact hf
    · intro k hk hS hb
      rw [hbL k hk, hS, Bool.true_and] at hb
      have : k = 15 * lr + (t - 1) := by
        refine Classical.byContradiction fun z => ?_
        rw [decide_eq_false z] at hb
        cases hb
      rw [this]
      exact clo_0
    · intro k w hk hw hg2
      rw [hg k hk] at hg2
      cases hg2
    · rw [cn_cong (q := fun _ => false) hg, cn_zero]
    · rintro ⟨k, k1, k2, -⟩
      rw [hg k k1] at k2
      cases k2
theorem TI_full {S0 : Nat → Bool} {f : Nat} {L P SK : Nat → Int32} {n sz : Nat} {en : Int32} {tn : Nat} (h : TI S0 f L P SK n sz en tn) (hn : 0 < n) : tn < 3375 := by
  obtain ⟨⟨hL, hP, hst⟩, -, -, -, -, -, hsz, htn, -⟩ := h
  obtain ⟨q, hq, -, hz⟩ := hst.2.1 0 hn
  obtain ⟨i, hi, hb⟩ := nz_bit hz
  have h15 := hP q hq i hb
  have hbl : bl P (15 * q + (i - 1)) = true := by
    unfold bl
    rw [show (15 * q + (i - 1)) / 15 = q by omega, show (15 * q + (i - 1)) % 15 + 1 = i by omega]
    exact hb
  have : cn (gst S0 L P) 3375 < cn (fun _ => true) 3375 := cn_lt2 (fun _ _ _ => rfl) ⟨15 * q + (i - 1), by omega, by unfold gst; rw [hbl]; simp, rfl⟩
  have := cn_le (fun _ => true) 3375
  omega
noncomputable def cmp (S0 : Nat → Bool) (f k : Nat) : Bool := cB (clo 6 (fun y => S0 y = true) f k)
theorem TI_end {S0 : Nat → Bool} {f : Nat} {L P SK : Nat → Int32} {sz : Nat} {en : Int32} {tn : Nat} (h : TI S0 f L P SK 0 sz en tn) : (∀ q, q < 225 → P q = 0) ∧ R15 L ∧ (∀ k, k < 3375 → bl L k = (S0 k && !cmp S0 f k)) ∧ sz = cn (cmp S0 f) 3375 ∧ ((en = 1 ∧ ∃ k, k < 3375 ∧ cmp S0 f k = true ∧ isE k = true) ∨ (en = 0 ∧ ¬ ∃ k, k < 3375 ∧ cmp S0 f k = true ∧ isE k = true)) := by
  obtain ⟨⟨hL, hP, hst⟩, ⟨f1, f2, f3⟩, hd, hs, hc, hcl, hsz, htn, hen⟩ := h
  have hz : ∀ q, q < 225 → P q = 0 := fun q hq => by
    have := cn_none hst.1 hq
    unfold nzP at this
    exact Classical.not_not.mp (of_decide_eq_false this)
  have hPf : ∀ k, k < 3375 → bl P k = false := fun k hk => z_bl (hz _ (by omega))
  have hgs : ∀ k, k < 3375 → gst S0 L P k = (S0 k && !bl L k) := fun k hk => by unfold gst; rw [hPf k hk]; simp
  have hcmp : ∀ k, k < 3375 → cmp S0 f k = (S0 k && !bl L k) := by
    intro k hk
    unfold cmp
    by_cases g : clo 6 (fun y => S0 y = true) f k
    · have := g (fun k => k < 3375 ∧ S0 k = true ∧ bl L k = false) ⟨f1, f2, f3⟩ (fun x w hx hw h1 h2 => ⟨h1, h2, hcl x w hx.1 hw (by rw [hgs x hx.1, hx.2.1, hx.2.2]; rfl) h1 h2⟩)
      rw [cB_t.mpr g, this.2.1, this.2.2]
      rfl
    · rw [cB_f.mpr g]
      cases e1 : S0 k
      · rfl
      · cases e2 : bl L k
        · exact absurd (hc k hk e1 e2) g
        · rfl
  have hgc : ∀ k, k < 3375 → gst S0 L P k = cmp S0 f k := fun k hk => by rw [hgs k hk, hcmp k hk]
  refine ⟨hz, hL, fun k hk => ?_, ?_, ?_⟩
  · rw [hcmp k hk]
    have := hs k hk
    cases e2 : bl L k
    · cases S0 k <;> rfl
    · rw [this (Or.inl e2)]; rfl
  · rw [hsz]; exact cn_cong hgc
  · have key : (∃ k, k < 3375 ∧ gst S0 L P k = true ∧ isE k = true) ↔ ∃ k, k < 3375 ∧ cmp S0 f k = true ∧ isE k = true := by
      constructor
      · rintro ⟨k, k1, k2, k3⟩; exact ⟨k, k1, by rw [← hgc k k1]; exact k2, k3⟩
      · rintro ⟨k, k1, k2, k3⟩; exact ⟨k, k1, by rw [hgc k k1]; exact k2, k3⟩
    rcases hen with ⟨e, z⟩ | ⟨e, z⟩
    · exact Or.inl ⟨e, key.mp z⟩
    · exact Or.inr ⟨e, fun w => z (key.mpr w)⟩
