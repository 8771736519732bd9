/-! the flood, pure: pieces one after another. S: the set that was loaded; LF: what is left when all pieces that begin below c are taken -/
abbrev cS (S : Nat → Bool) (i k : Nat) : Prop := clo 6 (fun y => S y = true) i k
def LF (S : Nat → Bool) (c : Nat) (L : Nat → Int32) : Prop := ∀ k, k < 3375 → bl L k = (S k && cB (∀ i, i < c → S i = true → ¬ cS S i k))
noncomputable def plS (S : Nat → Bool) (k : Nat) : Bool := S k && cB (∀ i, i < k → S i = true → ¬ cS S i k)
noncomputable def szS (S : Nat → Bool) (f : Nat) : Nat := cn (cmp S f) 3375
noncomputable def shS (S : Nat → Bool) (f : Nat) : Bool := cB (¬ ∃ k, k < 3375 ∧ cmp S f k = true ∧ isE k = true)
theorem cS_sy {S : Nat → Bool} {i k : Nat} (hi : i < 3375) (hS : S i = true) (h : cS S i k) : cS S k i := clo_sy sd6 hi hS h
theorem cS_in {S : Nat → Bool} {i k : Nat} (hi : i < 3375) (hS : S i = true) (h : cS S i k) : k < 3375 ∧ S k = true := clo_in hi hS h
theorem LF_0 {S : Nat → Bool} {L : Nat → Int32} (h : ∀ k, k < 3375 → bl L k = S k) : LF S 0 L := fun k hk => by
  rw [h k hk, cB_t.mpr (fun i hi => absurd hi (Nat.not_lt_zero _)), Bool.and_true]
theorem LF_iff {S : Nat → Bool} {L : Nat → Int32} {c k : Nat} (h : LF S c L) (hk : k < 3375) : bl L k = true ↔ S k = true ∧ ∀ i, i < c → S i = true → ¬ cS S i k := by
  rw [h k hk, Bool.and_eq_true, cB_t]
/-- closing within what is left is closing within the whole -/
theorem LF_clo {S : Nat → Bool} {L : Nat → Int32} {c f k : Nat} (hc : c ≤ 3375) (h : LF S c L) (hf : f < 3375) (hl : bl L f = true) : cS (bl L) f k ↔ cS S f k := by
  constructor
  · intro g
    exact (g (fun k => k < 3375 ∧ cS S f k) ⟨hf, clo_0⟩ (fun x w hx hw h1 h2 => ⟨h1, clo_s hx.2 hw h1 ((LF_iff h h1).mp h2).1⟩)).2
  · intro g
    have hl2 := (LF_iff h hf).mp hl
    refine (g (fun k => (k < 3375 ∧ cS S f k) ∧ cS (bl L) f k) ⟨⟨hf, clo_0⟩, clo_0⟩ (fun x w hx hw h1 h2 => ?_)).2
    have hx2 : cS S f (sdv x w) := clo_s hx.1.2 hw h1 h2
    refine ⟨⟨h1, hx2⟩, clo_s hx.2 hw h1 ((LF_iff h h1).mpr ⟨h2, fun i hi hS hic => ?_⟩)⟩
    exact hl2.2 i hi hS (clo_tr hic (cS_sy hf hl2.1 hx2))
theorem LF_step {S : Nat → Bool} {L L' : Nat → Int32} {c sz : Nat} {en : Int32} (hc : c ≤ 3375) (h : LF S c L) (hT : TK L L' sz en) : ∃ f, c ≤ f ∧ f < 3375 ∧ LF S (f + 1) L' ∧ plS S f = true ∧ (∀ j, c ≤ j → j < f → plS S j = false) ∧ sz = szS S f ∧ ((en = 1 ∧ shS S f = false) ∨ (en = 0 ∧ shS S f = true)) ∧ ∀ k, k < 3375 → (bl L' k = true ↔ bl L k = true ∧ ¬ cS S f k) := by
  obtain ⟨f, f1, f2, f3, f4, f5, f6⟩ := hT
  have hf := (LF_iff h f1).mp f2
  have hcf : c ≤ f := by
    rcases Nat.lt_or_ge f c with q | q
    · exact absurd clo_0 (hf.2 f q hf.1)
    · exact q
  have hcmp : ∀ k, cmp (bl L) f k = cmp S f k := fun k => by
    unfold cmp
    by_cases g : cS S f k
    · rw [cB_t.mpr g]; exact cB_t.mpr ((LF_clo hc h f1 f2).mpr g)
    · rw [cB_f.mpr g]; exact cB_f.mpr (fun z => g ((LF_clo hc h f1 f2).mp z))
  have hbef : ∀ j, c ≤ j → j < f → S j = true → ∃ i, i < c ∧ S i = true ∧ cS S i j := by
    intro j h1 h2 h3
    have := f3 j h2
    refine Classical.byContradiction fun z => ?_
    have : bl L j = true := (LF_iff h (by omega)).mpr ⟨h3, fun i hi hS hic => z ⟨i, hi, hS, hic⟩⟩
    rw [f3 j h2] at this
    cases this
  have hL' : ∀ k, k < 3375 → (bl L' k = true ↔ bl L k = true ∧ ¬ cS S f k) := by
    intro k hk
    rw [f4 k hk, hcmp k, Bool.and_eq_true]
    unfold cmp
    by_cases g : cS S f k
    · rw [cB_t.mpr g]; simp [g]
    · rw [cB_f.mpr g]; simp [g]
  refine ⟨f, hcf, f1, ?_, ?_, ?_, ?_, ?_, hL'⟩
  · intro k hk
    have e : bl L' k = true ↔ S k = true ∧ ∀ i, i < f + 1 → S i = true → ¬ cS S i k := by
      rw [hL' k hk, LF_iff h hk]
      constructor
      · rintro ⟨⟨a1, a2⟩, a3⟩
        refine ⟨a1, fun i hi hS hic => ?_⟩
        by_cases z1 : i < c
        · exact a2 i z1 hS hic
        · by_cases z2 : i = f
          · rw [z2] at hic; exact a3 hic
          · obtain ⟨i0, b1, b2, b3⟩ := hbef i (by omega) (by omega) hS
            exact a2 i0 b1 b2 (clo_tr b3 hic)
      · rintro ⟨a1, a2⟩
        exact ⟨⟨a1, fun i hi => a2 i (by omega)⟩, a2 f (by omega) hf.1⟩
    cases z : bl L' k
    · symm
      cases z2 : (S k && cB (∀ i, i < f + 1 → S i = true → ¬ cS S i k))
      · rfl
      · rw [Bool.and_eq_true, cB_t] at z2
        rw [e.mpr z2] at z
        cases z
    · have := e.mp z
      rw [this.1, cB_t.mpr this.2]
      rfl
  · unfold plS
    rw [hf.1, Bool.true_and]
    refine cB_t.mpr (fun i hi hS hic => ?_)
    by_cases z1 : i < c
    · exact hf.2 i z1 hS hic
    · obtain ⟨i0, b1, b2, b3⟩ := hbef i (by omega) hi hS
      exact hf.2 i0 b1 b2 (clo_tr b3 hic)
  · intro j h1 h2
    unfold plS
    cases z : S j
    · rfl
    · rw [Bool.true_and]
      obtain ⟨i0, b1, b2, b3⟩ := hbef j h1 h2 z
      exact cB_f.mpr (fun w => w i0 (by omega) b2 b3)
  · rw [f5]
    exact cn_cong (fun k _ => hcmp k)
  · unfold shS
    have e : (∃ k, k < 3375 ∧ cmp (bl L) f k = true ∧ isE k = true) ↔ ∃ k, k < 3375 ∧ cmp S f k = true ∧ isE k = true := by
      constructor
      · rintro ⟨k, k1, k2, k3⟩; exact ⟨k, k1, by rw [← hcmp k]; exact k2, k3⟩
      · rintro ⟨k, k1, k2, k3⟩; exact ⟨k, k1, by rw [hcmp k]; exact k2, k3⟩
    rcases f6 with ⟨a1, a2⟩ | ⟨a1, a2⟩
    · exact Or.inl ⟨a1, cB_f.mpr (fun z => z (e.mp a2))⟩
    · exact Or.inr ⟨a1, cB_t.mpr (fun z => a2 (e.mpr z))⟩
theorem LF_stop {S : Nat → Bool} {L : Nat → Int32} {c : Nat} (h : LF S c L) (he : ∀ k, k < 3375 → bl L k = false) : ∀ j, c ≤ j → j < 3375 → plS S j = false := by
  intro j h1 h2
  unfold plS
  cases z : S j
  · rfl
  · rw [Bool.true_and]
    refine cB_f.mpr (fun w => ?_)
    have : bl L j = true := (LF_iff h h2).mpr ⟨z, fun i hi hS => w i (by omega) hS⟩
    rw [he j h2] at this
    cases this
/-- sums over places where nothing is -/
theorem cn_skip {p : Nat → Bool} {c : Nat} : ∀ (d : Nat), (∀ j, c ≤ j → j < c + d → p j = false) → cn p (c + d) = cn p c
  | 0, _ => rfl
  | d + 1, h => by
    show cn p (c + d) + (if p (c + d) = true then 1 else 0) = cn p c
    rw [cn_skip d (fun j h1 h2 => h j h1 (by omega)), h (c + d) (by omega) (by omega), if_neg (by decide)]
    rfl
theorem cn_nx {p : Nat → Bool} {c f : Nat} (hcf : c ≤ f) (h : ∀ j, c ≤ j → j < f → p j = false) (hp : p f = true) : cn p (f + 1) = cn p c + 1 := by
  have e := cn_skip (p := p) (c := c) (f - c) (fun j h1 h2 => h j h1 (by omega))
  rw [show c + (f - c) = f by omega] at e
  rw [cn_yes hp, e]
theorem cn_no2 {p : Nat → Bool} {c f : Nat} (hcf : c ≤ f) (h : ∀ j, c ≤ j → j < f → p j = false) (hp : p f = false) : cn p (f + 1) = cn p c := by
  have e := cn_skip (p := p) (c := c) (f - c) (fun j h1 h2 => h j h1 (by omega))
  rw [show c + (f - c) = f by omega] at e
  rw [cn_no hp, e]
theorem cn_fin {p : Nat → Bool} {c : Nat} (hc : c ≤ 3375) (h : ∀ j, c ≤ j → j < 3375 → p j = false) : cn p 3375 = cn p c := by
  have e := cn_skip (p := p) (c := c) (3375 - c) (fun j h1 h2 => h j h1 (by omega))
  rwa [show c + (3375 - c) = 3375 by omega] at e
theorem gm_skip {p : Nat → Bool} {g : Nat → Nat} {c : Nat} : ∀ (d : Nat), (∀ j, c ≤ j → j < c + d → p j = false) → gmx p g (c + d) = gmx p g c ∧ smx p g (c + d) = smx p g c
  | 0, _ => ⟨rfl, rfl⟩
  | d + 1, h => by
    have ih := gm_skip (p := p) (g := g) (c := c) d (fun j h1 h2 => h j h1 (by omega))
    have hn := h (c + d) (by omega) (by omega)
    show (if p (c + d) = true then (if gmx p g (c + d) < g (c + d) then g (c + d) else gmx p g (c + d)) else gmx p g (c + d)) = _ ∧ smx p g (c + d) + (if p (c + d) = true then g (c + d) else 0) = _
    rw [hn, if_neg (by decide), if_neg (by decide)]
    exact ⟨ih.1, ih.2⟩
theorem gm_nx {p : Nat → Bool} {g : Nat → Nat} {c f : Nat} (hcf : c ≤ f) (h : ∀ j, c ≤ j → j < f → p j = false) : (gmx p g (f + 1) = if p f = true then (if gmx p g c < g f then g f else gmx p g c) else gmx p g c) ∧ smx p g (f + 1) = smx p g c + (if p f = true then g f else 0) := by
  have e := gm_skip (p := p) (g := g) (c := c) (f - c) (fun j h1 h2 => h j h1 (by omega))
  rw [show c + (f - c) = f by omega] at e
  show (if p f = true then (if gmx p g f < g f then g f else gmx p g f) else gmx p g f) = _ ∧ smx p g f + (if p f = true then g f else 0) = _
  rw [e.1, e.2]
  exact ⟨rfl, rfl⟩
theorem gm_fin {p : Nat → Bool} {g : Nat → Nat} {c : Nat} (hc : c ≤ 3375) (h : ∀ j, c ≤ j → j < 3375 → p j = false) : gmx p g 3375 = gmx p g c ∧ smx p g 3375 = smx p g c := by
  have e := gm_skip (p := p) (g := g) (c := c) (3375 - c) (fun j h1 h2 => h j h1 (by omega))
  rwa [show c + (3375 - c) = 3375 by omega] at e
