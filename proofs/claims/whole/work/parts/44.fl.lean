/-! the flood, pure: rows of bits as sets of places -/
def bl (R : Nat → Int32) (k : Nat) : Bool := bt (R (k / 15)) (k % 15 + 1)
def B15 (x : Int32) : Prop := ∀ i, bt x i = true → 1 ≤ i ∧ i ≤ 15
def R15 (R : Nat → Int32) : Prop := ∀ q, q < 225 → B15 (R q)
theorem B15_lo {x : Int32} (h : B15 x) : lo16 x := fun i hi => by
  cases q : bt x i
  · rfl
  · have := h i q; omega
theorem R15_LO {R : Nat → Int32} (h : R15 R) : LO R := fun q hq => B15_lo (h q hq)
theorem B15_0 : B15 0 := fun i h => by rw [b_0] at h; cases h
theorem B15_and {x y : Int32} (h : B15 x) : B15 (x &&& y) := fun i hi => by rw [b_and, Bool.and_eq_true] at hi; exact h i hi.1
theorem B15_and2 {x y : Int32} (h : B15 y) : B15 (x &&& y) := fun i hi => by rw [b_and, Bool.and_eq_true] at hi; exact h i hi.2
theorem B15_or {x y : Int32} (h1 : B15 x) (h2 : B15 y) : B15 (x ||| y) := fun i hi => by
  rw [b_or, Bool.or_eq_true] at hi
  rcases hi with hi | hi
  · exact h1 i hi
  · exact h2 i hi
theorem B15_gr {row x : Int32} (h1 : B15 row) (h2 : B15 x) : ∀ k, B15 (grN row x k)
  | 0 => h2
  | k + 1 => B15_or (B15_gr h1 h2 k) (B15_and2 h1)
theorem R15_upd {R : Nat → Int32} {q : Nat} {x : Int32} (h : R15 R) (hx : B15 x) : R15 (upd R q x) := fun k hk => by
  by_cases e : k = q
  · rw [e, pk_us]; exact hx
  · rw [pk_un e]; exact h k hk
/-- a word that isn't nought has a bit -/
theorem nz_bit {x : Int32} (h : ¬ x = 0) : ∃ i, i < 32 ∧ bt x i = true := by
  refine Classical.byContradiction fun z => h (b_ext (fun i hi => ?_))
  rw [b_0]
  cases q : bt x i
  · rfl
  · exact absurd ⟨i, hi, q⟩ z
theorem z_bl {R : Nat → Int32} {k : Nat} (h : R (k / 15) = 0) : bl R k = false := by unfold bl; rw [h, b_0]
theorem bl_z {R : Nat → Int32} {q : Nat} (hR : B15 (R q)) (h : ∀ x, x < 15 → bl R (15 * q + x) = false) : R q = 0 := by
  refine Classical.byContradiction fun z => ?_
  obtain ⟨i, hi, hb⟩ := nz_bit z
  have h15 := hR i hb
  have := h (i - 1) (by omega)
  unfold bl at this
  rw [show (15 * q + (i - 1)) / 15 = q by omega, show (15 * q + (i - 1)) % 15 + 1 = i by omega, hb] at this
  cases this
/-- one taking, as sets -/
def hit (y z : Int) (bits : Int32) (k : Nat) : Bool := decide (rpl y z = (↑(k / 15) : Int)) && bt bits (k % 15 + 1)
theorem tkF_bl {s s' : FS} {y z : Int} {bits : Int32} (e : s' = tkF s y z bits) {k : Nat} (hk : k < 3375) : bl s'.1 k = (bl s.1 k && !hit y z bits k) ∧ bl s'.2.1 k = (bl s.2.1 k || (bl s.1 k && hit y z bits k)) := by
  subst e
  have hr := rpl_b y z
  have hi : k % 15 + 1 < 32 := by omega
  unfold tkF
  by_cases h1 : rpl y z < 0
  · rw [if_pos h1]
    have : hit y z bits k = false := by unfold hit; rw [decide_eq_false (by omega), Bool.false_and]
    rw [this]
    simp
  · rw [if_neg h1]
    by_cases h2 : s.1 (rpl y z).toNat &&& bits = 0
    · rw [if_pos h2]
      have : (bl s.1 k && hit y z bits k) = false := by
        unfold hit
        by_cases e : rpl y z = (↑(k / 15) : Int)
        · rw [decide_eq_true e, Bool.true_and]
          unfold bl
          rw [show k / 15 = (rpl y z).toNat by omega, ← b_and, h2, b_0]
        · rw [decide_eq_false e, Bool.false_and, Bool.and_false]
      refine ⟨?_, by rw [this, Bool.or_false]⟩
      cases q : bl s.1 k
      · rfl
      · rw [q, Bool.true_and] at this; rw [this]; rfl
    · rw [if_neg h2]
      by_cases e : rpl y z = (↑(k / 15) : Int)
      · have eq : k / 15 = (rpl y z).toNat := by omega
        have hh : hit y z bits k = bt bits (k % 15 + 1) := by unfold hit; rw [decide_eq_true e, Bool.true_and]
        rw [hh]
        unfold bl
        rw [eq]
        show bt (upd s.1 _ _ _) _ = _ ∧ bt (upd s.2.1 _ _ _) _ = _
        rw [pk_us, pk_us, b_and, b_not _ hi, b_or, b_and]
        exact ⟨rfl, rfl⟩
      · have ne : k / 15 ≠ (rpl y z).toNat := by omega
        have hh : hit y z bits k = false := by unfold hit; rw [decide_eq_false e, Bool.false_and]
        rw [hh]
        unfold bl
        show bt (upd s.1 _ _ _) _ = _ ∧ bt (upd s.2.1 _ _ _) _ = _
        rw [pk_un ne, pk_un ne]
        simp
theorem tkF_15 {s s' : FS} {y z : Int} {bits : Int32} (e : s' = tkF s y z bits) (h1 : R15 s.1) (h2 : R15 s.2.1) : R15 s'.1 ∧ R15 s'.2.1 := by
  subst e
  have hr := rpl_b y z
  unfold tkF
  split
  · exact ⟨h1, h2⟩
  · split
    · exact ⟨h1, h2⟩
    · exact ⟨R15_upd h1 (B15_and (h1 _ (by omega))), R15_upd h2 (B15_or (h2 _ (by omega)) (B15_and (h1 _ (by omega))))⟩
/-- the stack holds the rows that have something pending, each once -/
def STK (P SK : Nat → Int32) (n : Nat) : Prop := cn (nzP P) 225 = n ∧ (∀ i, i < n → ∃ q, q < 225 ∧ SK i = nI q ∧ ¬ P q = 0) ∧ ∀ i j, i < j → j < n → ¬ SK i = SK j
theorem tkF_stk {s s' : FS} {y z : Int} {bits : Int32} (e : s' = tkF s y z bits) (h : STK s.2.1 s.2.2.1 s.2.2.2) : STK s'.2.1 s'.2.2.1 s'.2.2.2 := by
  have hc := tkF_cn e h.1
  refine ⟨hc, ?_⟩
  subst e
  obtain ⟨-, h1, h2⟩ := h
  have hr := rpl_b y z
  unfold tkF
  by_cases g1 : rpl y z < 0
  · rw [if_pos g1]; exact ⟨h1, h2⟩
  · rw [if_neg g1]
    by_cases g2 : s.1 (rpl y z).toNat &&& bits = 0
    · rw [if_pos g2]; exact ⟨h1, h2⟩
    · rw [if_neg g2]
      generalize hq : (rpl y z).toNat = q at *
      have hq2 : q < 225 := by omega
      have hiq : iI (rpl y z) = nI q := by rw [nI_iI, ← hq, Int.toNat_of_nonneg (by omega)]
      have nz : ∀ p, ¬ s.2.1 p = 0 → ¬ upd s.2.1 q (s.2.1 q ||| (s.1 q &&& bits)) p = 0 := by
        intro p hp
        by_cases e : p = q
        · rw [e, pk_us]; exact or_nz g2
        · rw [pk_un e]; exact hp
      by_cases g3 : s.2.1 q = 0
      · show (∀ i, i < (if s.2.1 q = 0 then s.2.2.2 + 1 else s.2.2.2) → ∃ p, p < 225 ∧ (if s.2.1 q = 0 then upd s.2.2.1 s.2.2.2 (iI (rpl y z)) else s.2.2.1) i = nI p ∧ _) ∧ ∀ i j, i < j → j < (if s.2.1 q = 0 then s.2.2.2 + 1 else s.2.2.2) → ¬ (if s.2.1 q = 0 then upd s.2.2.1 s.2.2.2 (iI (rpl y z)) else s.2.2.1) i = (if s.2.1 q = 0 then upd s.2.2.1 s.2.2.2 (iI (rpl y z)) else s.2.2.1) j
        simp only [if_pos g3, hiq]
        refine ⟨fun i hi => ?_, fun i j hij hj => ?_⟩
        · by_cases e : i = s.2.2.2
          · subst e
            exact ⟨q, hq2, pk_us, by show ¬ upd s.2.1 q _ q = 0; rw [pk_us]; exact or_nz g2⟩
          · obtain ⟨p, p1, p2, p3⟩ := h1 i (by omega)
            exact ⟨p, p1, by rw [pk_un e]; exact p2, nz p p3⟩
        · rw [pk_un (show i ≠ s.2.2.2 by omega)]
          by_cases e : j = s.2.2.2
          · rw [e, pk_us]
            obtain ⟨p, p1, p2, p3⟩ := h1 i (by omega)
            rw [p2, nI_eq (by omega) (by omega)]
            intro z
            rw [z] at p3
            exact p3 g3
          · rw [pk_un e]; exact h2 i j hij (by omega)
      · show (∀ i, i < (if s.2.1 q = 0 then s.2.2.2 + 1 else s.2.2.2) → ∃ p, p < 225 ∧ (if s.2.1 q = 0 then upd s.2.2.1 s.2.2.2 (iI (rpl y z)) else s.2.2.1) i = nI p ∧ _) ∧ ∀ i j, i < j → j < (if s.2.1 q = 0 then s.2.2.2 + 1 else s.2.2.2) → ¬ (if s.2.1 q = 0 then upd s.2.2.1 s.2.2.2 (iI (rpl y z)) else s.2.2.1) i = (if s.2.1 q = 0 then upd s.2.2.1 s.2.2.2 (iI (rpl y z)) else s.2.2.1) j
        simp only [if_neg g3]
        refine ⟨fun i hi => ?_, h2⟩
        obtain ⟨p, p1, p2, p3⟩ := h1 i hi
        exact ⟨p, p1, p2, nz p p3⟩
/-- what a row's bits grow to -/
theorem gr_sub {row x : Int32} {i : Nat} (h : bt x i = true) : ∀ k, bt (grN row x k) i = true
  | 0 => h
  | k + 1 => by
    show bt (grN row x k ||| _) i = true
    rw [b_or, gr_sub h k, Bool.true_or]
theorem gr1_bit {row g : Int32} {i : Nat} (hg : lo16 g) (hi : i < 32) : bt (gr1 row g) i = (bt g i || (((decide (1 ≤ i) && bt g (i - 1)) || bt g (i + 1)) && bt row i)) := by
  unfold gr1
  rw [b_or, b_and, b_or, b_shl1 g hi, b_shr1 hg hi]
theorem gr_in {row x : Int32} (hr : lo16 row) (hx : lo16 x) (Q : Nat → Prop) (h0 : ∀ i, bt x i = true → Q i) (hs : ∀ i j, i < 32 → j < 32 → (j = i + 1 ∨ i = j + 1) → Q i → bt row j = true → Q j) : ∀ k i, bt (grN row x k) i = true → Q i
  | 0, i, h => h0 i h
  | k + 1, i, h => by
    have hl := lo_grN hr hx k
    have hl1 := lo_grN hr hx (k + 1)
    have hi : i < 32 := by
      rcases Nat.lt_or_ge i 16 with q | q
      · omega
      · rw [hl1 i q] at h; cases h
    have h' : bt (gr1 row (grN row x k)) i = true := h
    rw [gr1_bit hl hi, Bool.or_eq_true, Bool.and_eq_true, Bool.or_eq_true, Bool.and_eq_true] at h'
    rcases h' with h' | ⟨⟨a1, a2⟩ | a2, a3⟩
    · exact gr_in hr hx Q h0 hs k i h'
    · have a1 := of_decide_eq_true a1
      exact hs (i - 1) i (by omega) hi (by omega) (gr_in hr hx Q h0 hs k _ a2) a3
    · have hi2 : i + 1 < 32 := by
        rcases Nat.lt_or_ge (i + 1) 16 with q | q
        · omega
        · rw [hl (i + 1) q] at a2; cases a2
      exact hs (i + 1) i hi2 hi (by omega) (gr_in hr hx Q h0 hs k _ a2) a3
theorem gr_or {row x : Int32} (hr : lo16 row) (hx : lo16 x) {k i : Nat} (h : bt (grN row x k) i = true) : bt x i = true ∨ bt row i = true :=
  gr_in hr hx (fun i => bt x i = true ∨ bt row i = true) (fun _ h => Or.inl h) (fun _ _ _ _ _ _ h => Or.inr h) k i h
theorem cn_mono2 {p q : Nat → Bool} : ∀ {n : Nat}, (∀ i, i < n → p i = true → q i = true) → cn p n ≤ cn q n
  | 0, _ => Nat.le_refl _
  | n + 1, h => by
    have ih := cn_mono2 (n := n) (fun i hi => h i (by omega))
    show cn p n + (if p n = true then 1 else 0) ≤ cn q n + (if q n = true then 1 else 0)
    by_cases e : p n = true
    · rw [if_pos e, if_pos (h n (by omega) e)]; omega
    · rw [if_neg e]; omega
theorem cn_lt2 {p q : Nat → Bool} : ∀ {n : Nat}, (∀ i, i < n → p i = true → q i = true) → (∃ i, i < n ∧ p i = false ∧ q i = true) → cn p n < cn q n
  | 0, _, ⟨i, h, _⟩ => by omega
  | n + 1, h, ⟨i, h1, h2, h3⟩ => by
    show cn p n + (if p n = true then 1 else 0) < cn q n + (if q n = true then 1 else 0)
    by_cases e : i = n
    · subst e
      have := cn_mono2 (n := i) (fun j hj => h j (by omega))
      rw [h2, h3, if_neg (by decide), if_pos rfl]
      omega
    · have := cn_lt2 (n := n) (fun j hj => h j (by omega)) ⟨i, by omega, h2, h3⟩
      have h4 := h n (by omega)
      by_cases e2 : p n = true
      · rw [if_pos e2, if_pos (h4 e2)]; omega
      · rw [if_neg e2]; omega
theorem gr_step {row x : Int32} {k i : Nat} (h : bt (grN row x k) i = true) : bt (grN row x (k + 1)) i = true := by
  show bt (grN row x k ||| _) i = true
  rw [b_or, h, Bool.true_or]
theorem gr_nw {row x : Int32} (hr : B15 row) (hx : B15 x) (k : Nat) (h : ¬ gr1 row (grN row x k) = grN row x k) : ∃ i, i < 16 ∧ bt (grN row x k) i = false ∧ bt (grN row x (k + 1)) i = true := by
  refine Classical.byContradiction fun z => h (b_ext (fun i hi => ?_))
  by_cases g : i < 16
  · cases q : bt (grN row x k) i
    · cases q2 : bt (gr1 row (grN row x k)) i
      · rfl
      · exact absurd ⟨i, g, q, q2⟩ z
    · exact gr_step q
  · rw [B15_lo (B15_gr hr hx (k + 1)) i (by omega) |> (fun e => (show bt (gr1 row (grN row x k)) i = false from e)), B15_lo (B15_gr hr hx k) i (by omega)]
/-- growing fourteen times is enough in a row of fifteen -/
theorem gr_fix {row x : Int32} (hr : B15 row) (hx : B15 x) (h0 : ∃ i, bt x i = true) : gr1 row (grN row x 14) = grN row x 14 := by
  have key : ∀ k, (gr1 row (grN row x k) = grN row x k) ∨ k + 1 < cn (bt (grN row x (k + 1))) 16 := by
    intro k
    induction k with
    | zero =>
      by_cases e : gr1 row (grN row x 0) = grN row x 0
      · exact Or.inl e
      · refine Or.inr ?_
        obtain ⟨i, hi⟩ := h0
        have h15 := hx i hi
        have c0 : 0 < cn (bt (grN row x 0)) 16 := by
          have := cn_lt2 (p := fun _ => false) (q := bt (grN row x 0)) (n := 16) (fun _ _ z => by cases z) ⟨i, by omega, rfl, hi⟩
          omega
        have : cn (bt (grN row x 0)) 16 < cn (bt (grN row x (0 + 1))) 16 := by
          refine cn_lt2 (fun i _ hi => gr_step hi) ?_
          exact gr_nw hr hx 0 e
        omega
    | succ k ih =>
      by_cases e : gr1 row (grN row x (k + 1)) = grN row x (k + 1)
      · exact Or.inl e
      · rcases ih with ih | ih
        · exact absurd (show gr1 row (gr1 row (grN row x k)) = gr1 row (grN row x k) by rw [ih, ih]) e
        · refine Or.inr ?_
          have : cn (bt (grN row x (k + 1))) 16 < cn (bt (grN row x (k + 1 + 1))) 16 := cn_lt2 (fun i _ hi => gr_step hi) (gr_nw hr hx (k + 1) e)
          omega
  rcases key 14 with h | h
  · exact h
  · exfalso
    have hb := B15_gr hr hx (14 + 1)
    have : cn (bt (grN row x (14 + 1))) 16 ≤ cn (fun i => decide (1 ≤ i)) 16 := cn_mono2 (fun i _ hi => decide_eq_true (hb i hi).1)
    have e15 : cn (fun i => decide (1 ≤ i)) 16 = 15 := by decide
    omega
theorem gr_cl {row x : Int32} (hr : B15 row) (hx : B15 x) (h0 : ∃ i, bt x i = true) {i j : Nat} (hi : bt (grN row x 14) i = true) (hij : j = i + 1 ∨ i = j + 1) (hj : bt row j = true) : bt (grN row x 14) j = true := by
  have hl := B15_lo (B15_gr hr hx 14)
  have hj2 := hr j hj
  rw [← gr_fix hr hx h0, gr1_bit hl (by omega), Bool.or_eq_true, Bool.and_eq_true, Bool.or_eq_true, Bool.and_eq_true]
  rcases hij with e | e
  · refine Or.inr ⟨Or.inl ⟨decide_eq_true (by omega), ?_⟩, hj⟩
    rw [show j - 1 = i by omega]; exact hi
  · refine Or.inr ⟨Or.inr ?_, hj⟩
    rw [← e]; exact hi
/-- the sets after a spreading -/
def gst (S0 : Nat → Bool) (L P : Nat → Int32) (k : Nat) : Bool := S0 k && (!bl L k && !bl P k)
def nbh (q : Nat) (G : Int32) (k : Nat) : Bool := hit (spY q - 1) (spZ q) G k || hit (spY q + 1) (spZ q) G k || hit (spY q) (spZ q - 1) G k || hit (spY q) (spZ q + 1) G k
def own (q : Nat) (G : Int32) (k : Nat) : Bool := decide (k / 15 = q) && bt G (k % 15 + 1)
theorem sp0_bl {s : FS} {q k : Nat} (hk : k < 3375) : bl (sp0 s q).1 k = (bl s.1 k && !own q (spB s q) k) ∧ bl (sp0 s q).2.1 k = (bl s.2.1 k && !decide (k / 15 = q)) := by
  unfold sp0 own
  by_cases e : k / 15 = q
  · rw [decide_eq_true e, Bool.true_and]
    unfold bl
    show bt (upd s.1 q _ (k / 15)) _ = _ ∧ bt (upd s.2.1 q 0 (k / 15)) _ = _
    rw [e, pk_us, pk_us, b_and, b_not _ (by omega), b_0]
    exact ⟨rfl, by simp⟩
  · rw [decide_eq_false e, Bool.false_and]
    unfold bl
    show bt (upd s.1 q _ (k / 15)) _ = _ ∧ bt (upd s.2.1 q 0 (k / 15)) _ = _
    rw [pk_un e, pk_un e]
    simp
theorem spF_bl {s s' : FS} {q k : Nat} (e : s' = spF s q) (hk : k < 3375) : bl s'.1 k = (bl s.1 k && (!own q (spB s q) k && !nbh q (spB s q) k)) ∧ bl s'.2.1 k = ((bl s.2.1 k && !decide (k / 15 = q)) || ((bl s.1 k && !own q (spB s q) k) && nbh q (spB s q) k)) := by
  subst e
  unfold spF nbh
  have h0 := sp0_bl (s := s) (q := q) hk
  have h1 := tkF_bl (s := sp0 s q) (y := spY q - 1) (z := spZ q) (bits := spB s q) rfl hk
  have h2 := tkF_bl (s := tkF (sp0 s q) (spY q - 1) (spZ q) (spB s q)) (y := spY q + 1) (z := spZ q) (bits := spB s q) rfl hk
  have h3 := tkF_bl (s := tkF (tkF (sp0 s q) (spY q - 1) (spZ q) (spB s q)) (spY q + 1) (spZ q) (spB s q)) (y := spY q) (z := spZ q - 1) (bits := spB s q) rfl hk
  have h4 := tkF_bl (s := tkF (tkF (tkF (sp0 s q) (spY q - 1) (spZ q) (spB s q)) (spY q + 1) (spZ q) (spB s q)) (spY q) (spZ q - 1) (spB s q)) (y := spY q) (z := spZ q + 1) (bits := spB s q) rfl hk
  rw [h4.1, h4.2, h3.1, h3.2, h2.1, h2.2, h1.1, h1.2, h0.1, h0.2]
  generalize bl s.1 k = a1
  generalize bl s.2.1 k = a2
  generalize own q (spB s q) k = a3
  generalize decide (k / 15 = q) = a4
  generalize hit (spY q - 1) (spZ q) (spB s q) k = b1
  generalize hit (spY q + 1) (spZ q) (spB s q) k = b2
  generalize hit (spY q) (spZ q - 1) (spB s q) k = b3
  generalize hit (spY q) (spZ q + 1) (spB s q) k = b4
  revert a1 a2 a3 a4 b1 b2 b3 b4
  decide
theorem nbh_iff {q k : Nat} {G : Int32} (hq : q < 225) (hk : k < 3375) : nbh q G k = true ↔ ∃ w, (2 ≤ w ∧ w < 6) ∧ sdv k w < 3375 ∧ own q G (sdv k w) = true := by
  unfold nbh hit own
  simp only [Bool.or_eq_true, Bool.and_eq_true, decide_eq_true_eq]
  have hy : spY q = (↑(q % 15) : Int) + (-7) := rfl
  have hz : spZ q = (↑(q / 15) : Int) + (-7) := rfl
  constructor
  · rintro (((⟨h, b⟩ | ⟨h, b⟩) | ⟨h, b⟩) | ⟨h, b⟩) <;> unfold rpl at h <;> rw [hy, hz] at h <;> split at h
    all_goals first | (exfalso; omega) | skip
    · refine ⟨3, by omega, ?_⟩
      have e : sdv k 3 = k + 15 := by unfold sdv; simp; omega
      rw [e]
      exact ⟨by omega, by omega, by rw [show (k + 15) % 15 = k % 15 by omega]; exact b⟩
    · refine ⟨2, by omega, ?_⟩
      have e : sdv k 2 = k - 15 := by unfold sdv; simp; omega
      rw [e]
      exact ⟨by omega, by omega, by rw [show (k - 15) % 15 = k % 15 by omega]; exact b⟩
    · refine ⟨5, by omega, ?_⟩
      have e : sdv k 5 = k + 225 := by unfold sdv; simp; omega
      rw [e]
      exact ⟨by omega, by omega, by rw [show (k + 225) % 15 = k % 15 by omega]; exact b⟩
    · refine ⟨4, by omega, ?_⟩
      have e : sdv k 4 = k - 225 := by unfold sdv; simp; omega
      rw [e]
      exact ⟨by omega, by omega, by rw [show (k - 225) % 15 = k % 15 by omega]; exact b⟩
  · rintro ⟨w, hw, h1, h2, b⟩
    unfold rpl
    rw [hy, hz]
    rcases (show w = 2 ∨ w = 3 ∨ w = 4 ∨ w = 5 by omega) with rfl | rfl | rfl | rfl
    · have e : sdv k 2 = k - 15 ∧ 0 < k / 15 % 15 := by unfold sdv at h1 ⊢; simp at h1 ⊢; split at h1 <;> omega
      rw [e.1] at h2 b
      rw [show (k - 15) % 15 = k % 15 by omega] at b
      refine Or.inl (Or.inl (Or.inr ⟨?_, b⟩))
      rw [if_pos (by omega)]
      omega
    · have e : sdv k 3 = k + 15 ∧ k / 15 % 15 < 14 := by unfold sdv at h1 ⊢; simp at h1 ⊢; split at h1 <;> omega
      rw [e.1] at h2 b
      rw [show (k + 15) % 15 = k % 15 by omega] at b
      refine Or.inl (Or.inl (Or.inl ⟨?_, b⟩))
      rw [if_pos (by omega)]
      omega
    · have e : sdv k 4 = k - 225 ∧ 0 < k / 225 := by unfold sdv at h1 ⊢; simp at h1 ⊢; split at h1 <;> omega
      rw [e.1] at h2 b
      rw [show (k - 225) % 15 = k % 15 by omega] at b
      refine Or.inr ⟨?_, b⟩
      rw [if_pos (by omega)]
      omega
    · have e : sdv k 5 = k + 225 ∧ k / 225 < 14 := by unfold sdv at h1 ⊢; simp at h1 ⊢; split at h1 <;> omega
      rw [e.1] at h2 b
      rw [show (k + 225) % 15 = k % 15 by omega] at b
      refine Or.inl (Or.inr ⟨?_, b⟩)
      rw [if_pos (by omega)]
      omega
