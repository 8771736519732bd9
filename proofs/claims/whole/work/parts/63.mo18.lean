/-! the reference: the next token -/
def cR (tl : Nat) (tb : Nat → Nat) (k : Nat) : Int := if k < tl then (tb k : Int) else -4
theorem cR_b {tl : Nat} {tb : Nat → Nat} (h : ∀ j, j < tl → tb j < 256) (k : Nat) : -4 ≤ cR tl tb k ∧ cR tl tb k ≤ 255 := by
  unfold cR
  split
  · have := h k (by assumption)
    omega
  · omega
theorem cR_end {tl : Nat} {tb : Nat → Nat} {k : Nat} : cR tl tb k = -4 ↔ tl ≤ k := by
  unfold cR
  split <;> omega
theorem cR_c {tl : Nat} {tb : Nat → Nat} {k c : Nat} (hc : c < 999) : cR tl tb k = (c : Int) ↔ ch tl tb k = c := by
  unfold cR ch
  split <;> omega
theorem cR_lt {tl : Nat} {tb : Nat → Nat} {k : Nat} : (97 ≤ cR tl tb k ∧ cR tl tb k ≤ 122) ↔ isLt (ch tl tb k) = true := by
  unfold cR ch isLt
  rw [decide_eq_true_iff]
  split <;> omega
theorem cR_fg {tl : Nat} {tb : Nat → Nat} {k : Nat} : (48 ≤ cR tl tb k ∧ cR tl tb k ≤ 57) ↔ isFg (ch tl tb k) = true := by
  unfold cR ch isFg
  rw [decide_eq_true_iff]
  split <;> omega
theorem cR_in {tl : Nat} {tb : Nat → Nat} {k : Nat} (h : ¬ cR tl tb k = -4) : cR tl tb k = (ch tl tb k : Int) := by
  unfold cR ch at *
  split <;> simp_all
theorem nI_ltN {x y : Nat} (hx : x < 2147483648) (hy : y < 2147483648) : nI x < nI y ↔ x < y := by
  rw [Int32.lt_iff_toInt_lt, nI_iI, nI_iI, iI_toInt (by omega) (by omega), iI_toInt (by omega) (by omega)]
  omega
theorem bA_h {x : Int32} {tl k : Nat} (h6 : x = nI tl) (h160 : tl ≤ 160) (hk : k ≤ 400) : nI k < x → nI k = nI k ∧ k < 160 := fun h => by
  rw [h6, nI_ltN (by omega) (by omega)] at h
  exact ⟨rfl, by omega⟩
theorem bA_v {x : Int32} {A : Nat → Int32} {tl k : Nat} {tb : Nat → Nat} (h6 : x = nI tl) (h160 : tl ≤ 160) (hk : k ≤ 400) (ha : ∀ j, j < tl → A j = nI (tb j)) : (if nI k < x then A k else -4) = iI (cR tl tb k) := by
  unfold cR
  by_cases h : k < tl
  · rw [if_pos h, if_pos (by rw [h6, nI_ltN (by omega) (by omega)]; exact h), ha k h]
    rfl
  · rw [if_neg h, if_neg (by rw [h6, nI_ltN (by omega) (by omega)]; exact h)]
    rfl
/-- the letters as a number -/
def nmN (c : Nat → Nat) : Nat → Nat
  | 0 => 0
  | n + 1 => if n < 6 then 256 * nmN c n + c n else 0
theorem nmN_b {c : Nat → Nat} : ∀ (n : Nat), n ≤ 6 → (∀ i, i < n → c i < 256) → nmN c n < 256 ^ n
  | 0, _, _ => by show 0 < 1; decide
  | n + 1, h, hc => by
    have ih := nmN_b n (by omega) (fun i hi => hc i (by omega))
    have h1 := hc n (by omega)
    show (if n < 6 then 256 * nmN c n + c n else 0) < 256 ^ (n + 1)
    rw [if_pos (by omega), Nat.pow_succ]
    omega
theorem p40 {n : Nat} (h : n ≤ 5) : 256 ^ n ≤ 1099511627776 := by
  rcases (show n = 0 ∨ n = 1 ∨ n = 2 ∨ n = 3 ∨ n = 4 ∨ n = 5 by omega) with rfl | rfl | rfl | rfl | rfl | rfl <;> decide
theorem sh8 {v q : Nat} (hv : v < 1099511627776) (hq : q < 256) : (iL (v : Int) <<< ((8 : Int32).toInt64 &&& 63)) ||| iL (q : Int) = iL ((256 * v + q : Nat) : Int) := by
  apply Int64.toBitVec_inj.mp
  apply BitVec.eq_of_toNat_eq
  have e1 : (iL (v : Int)).toBitVec = BitVec.ofNat 64 v := rfl
  have e2 : (iL (q : Int)).toBitVec = BitVec.ofNat 64 q := rfl
  have e3 : (iL ((256 * v + q : Nat) : Int)).toBitVec = BitVec.ofNat 64 (256 * v + q) := rfl
  have e4 : ((iL (v : Int) <<< ((8 : Int32).toInt64 &&& 63)) ||| iL (q : Int)).toBitVec = (BitVec.ofNat 64 v <<< 8) ||| BitVec.ofNat 64 q := rfl
  rw [e3, e4, BitVec.toNat_or, BitVec.toNat_shiftLeft, BitVec.toNat_ofNat, BitVec.toNat_ofNat, BitVec.toNat_ofNat, Nat.mod_eq_of_lt (show v < 2 ^ 64 by omega), Nat.mod_eq_of_lt (show q < 2 ^ 64 by omega), Nat.mod_eq_of_lt (show 256 * v + q < 2 ^ 64 by omega), Nat.shiftLeft_eq, Nat.mod_eq_of_lt (show v * 2 ^ 8 < 2 ^ 64 by omega)]
  have h := Nat.shiftLeft_add_eq_or_of_lt (b := q) (i := 8) (by omega) v
  rw [Nat.shiftLeft_eq] at h
  omega
/-- the kind of a name as the reference says it -/
def nmZ (c : Nat → Nat) (n : Nat) : Int := if nmK c n 10 < 10 then (nmK c n 10 : Int) else -4
theorem nmZ_b (c : Nat → Nat) (n : Nat) : -4 ≤ nmZ c n ∧ nmZ c n ≤ 9 := by
  unfold nmZ
  split <;> omega
theorem nmK_no {c : Nat → Nat} {n : Nat} (h : 6 < n) : ∀ k, nmK c n k = 10
  | 0 => rfl
  | k + 1 => by
    show (if nmS k c n then k else nmK c n k) = 10
    have := lK_2 k
    rw [if_neg (fun z => by have := z.1; omega), nmK_no h k]
theorem nmZ_no {c : Nat → Nat} {n : Nat} (h : 6 < n) : nmZ c n = -4 := by
  unfold nmZ
  rw [nmK_no h, if_neg (by decide)]
theorem ex7 {n : Nat} (h : n ≤ 6) : n = 0 ∨ n = 1 ∨ n = 2 ∨ n = 3 ∨ n = 4 ∨ n = 5 ∨ n = 6 := by omega
theorem nmN_0 (c : Nat → Nat) : nmN c 0 = 0 := rfl
theorem nmN_1 (c : Nat → Nat) : nmN c 1 = 256 * (0) + c 0 := rfl
theorem nmN_2 (c : Nat → Nat) : nmN c 2 = 256 * (256 * (0) + c 0) + c 1 := rfl
theorem nmN_3 (c : Nat → Nat) : nmN c 3 = 256 * (256 * (256 * (0) + c 0) + c 1) + c 2 := rfl
theorem nmN_4 (c : Nat → Nat) : nmN c 4 = 256 * (256 * (256 * (256 * (0) + c 0) + c 1) + c 2) + c 3 := rfl
theorem nmN_5 (c : Nat → Nat) : nmN c 5 = 256 * (256 * (256 * (256 * (256 * (0) + c 0) + c 1) + c 2) + c 3) + c 4 := rfl
theorem nmN_6 (c : Nat → Nat) : nmN c 6 = 256 * (256 * (256 * (256 * (256 * (256 * (0) + c 0) + c 1) + c 2) + c 3) + c 4) + c 5 := rfl
theorem nS_0 {c : Nat → Nat} {n : Nat} (hn : n ≤ 6) (hc : ∀ i, i < n → 97 ≤ c i ∧ c i ≤ 122) : nmS 0 c n ↔ nmN c n = 1650551916 := by
  constructor
  · rintro ⟨h1, h2⟩
    have e : n = 4 := h1
    subst e
    have c0 : c 0 = 98 := h2 0 (by decide)
    have c1 : c 1 = 97 := h2 1 (by decide)
    have c2 : c 2 = 108 := h2 2 (by decide)
    have c3 : c 3 = 108 := h2 3 (by decide)
    rw [nmN_4, c0, c1, c2, c3]
  · intro h
    rcases ex7 hn with rfl | rfl | rfl | rfl | rfl | rfl | rfl
    · rw [nmN_0] at h
      omega
    · rw [nmN_1] at h
      have b0 := hc 0 (by decide)
      omega
    · rw [nmN_2] at h
      have b0 := hc 0 (by decide)
      have b1 := hc 1 (by decide)
      omega
    · rw [nmN_3] at h
      have b0 := hc 0 (by decide)
      have b1 := hc 1 (by decide)
      have b2 := hc 2 (by decide)
      omega
    · rw [nmN_4] at h
      have b0 := hc 0 (by decide)
      have b1 := hc 1 (by decide)
      have b2 := hc 2 (by decide)
      have b3 := hc 3 (by decide)
      have e : c 0 = 98 ∧ c 1 = 97 ∧ c 2 = 108 ∧ c 3 = 108 := by omega
      refine ⟨rfl, fun j hj => ?_⟩
      have hj2 : j < 4 := hj
      rcases (show j = 0 ∨ j = 1 ∨ j = 2 ∨ j = 3 by omega) with rfl | rfl | rfl | rfl
      · exact e.1
      · exact e.2.1
      · exact e.2.2.1
      · exact e.2.2.2
    · rw [nmN_5] at h
      have b0 := hc 0 (by decide)
      have b1 := hc 1 (by decide)
      have b2 := hc 2 (by decide)
      have b3 := hc 3 (by decide)
      have b4 := hc 4 (by decide)
      omega
    · rw [nmN_6] at h
      have b0 := hc 0 (by decide)
      have b1 := hc 1 (by decide)
      have b2 := hc 2 (by decide)
      have b3 := hc 3 (by decide)
      have b4 := hc 4 (by decide)
      have b5 := hc 5 (by decide)
      omega
theorem nS_1 {c : Nat → Nat} {n : Nat} (hn : n ≤ 6) (hc : ∀ i, i < n → 97 ≤ c i ∧ c i ≤ 122) : nmS 1 c n ↔ nmN c n = 6451064 := by
  constructor
  · rintro ⟨h1, h2⟩
    have e : n = 3 := h1
    subst e
    have c0 : c 0 = 98 := h2 0 (by decide)
    have c1 : c 1 = 111 := h2 1 (by decide)
    have c2 : c 2 = 120 := h2 2 (by decide)
    rw [nmN_3, c0, c1, c2]
  · intro h
    rcases ex7 hn with rfl | rfl | rfl | rfl | rfl | rfl | rfl
    · rw [nmN_0] at h
      omega
    · rw [nmN_1] at h
      have b0 := hc 0 (by decide)
      omega
    · rw [nmN_2] at h
      have b0 := hc 0 (by decide)
      have b1 := hc 1 (by decide)
      omega
    · rw [nmN_3] at h
      have b0 := hc 0 (by decide)
      have b1 := hc 1 (by decide)
      have b2 := hc 2 (by decide)
      have e : c 0 = 98 ∧ c 1 = 111 ∧ c 2 = 120 := by omega
      refine ⟨rfl, fun j hj => ?_⟩
      have hj2 : j < 3 := hj
      rcases (show j = 0 ∨ j = 1 ∨ j = 2 by omega) with rfl | rfl | rfl
      · exact e.1
      · exact e.2.1
      · exact e.2.2
    · rw [nmN_4] at h
      have b0 := hc 0 (by decide)
      have b1 := hc 1 (by decide)
      have b2 := hc 2 (by decide)
      have b3 := hc 3 (by decide)
      omega
    · rw [nmN_5] at h
      have b0 := hc 0 (by decide)
      have b1 := hc 1 (by decide)
      have b2 := hc 2 (by decide)
      have b3 := hc 3 (by decide)
      have b4 := hc 4 (by decide)
      omega
    · rw [nmN_6] at h
      have b0 := hc 0 (by decide)
      have b1 := hc 1 (by decide)
      have b2 := hc 2 (by decide)
      have b3 := hc 3 (by decide)
      have b4 := hc 4 (by decide)
      have b5 := hc 5 (by decide)
      omega
theorem nS_2 {c : Nat → Nat} {n : Nat} (hn : n ≤ 6) (hc : ∀ i, i < n → 97 ≤ c i ∧ c i ≤ 122) : nmS 2 c n ↔ nmN c n = 482854661733 := by
  constructor
  · rintro ⟨h1, h2⟩
    have e : n = 5 := h1
    subst e
    have c0 : c 0 = 112 := h2 0 (by decide)
    have c1 : c 1 = 108 := h2 1 (by decide)
    have c2 : c 2 = 97 := h2 2 (by decide)
    have c3 : c 3 = 110 := h2 3 (by decide)
    have c4 : c 4 = 101 := h2 4 (by decide)
    rw [nmN_5, c0, c1, c2, c3, c4]
  · intro h
    rcases ex7 hn with rfl | rfl | rfl | rfl | rfl | rfl | rfl
    · rw [nmN_0] at h
      omega
    · rw [nmN_1] at h
      have b0 := hc 0 (by decide)
      omega
    · rw [nmN_2] at h
      have b0 := hc 0 (by decide)
      have b1 := hc 1 (by decide)
      omega
    · rw [nmN_3] at h
      have b0 := hc 0 (by decide)
      have b1 := hc 1 (by decide)
      have b2 := hc 2 (by decide)
      omega
    · rw [nmN_4] at h
      have b0 := hc 0 (by decide)
      have b1 := hc 1 (by decide)
      have b2 := hc 2 (by decide)
      have b3 := hc 3 (by decide)
      omega
    · rw [nmN_5] at h
      have b0 := hc 0 (by decide)
      have b1 := hc 1 (by decide)
      have b2 := hc 2 (by decide)
      have b3 := hc 3 (by decide)
      have b4 := hc 4 (by decide)
      have e : c 0 = 112 ∧ c 1 = 108 ∧ c 2 = 97 ∧ c 3 = 110 ∧ c 4 = 101 := by omega
      refine ⟨rfl, fun j hj => ?_⟩
      have hj2 : j < 5 := hj
      rcases (show j = 0 ∨ j = 1 ∨ j = 2 ∨ j = 3 ∨ j = 4 by omega) with rfl | rfl | rfl | rfl | rfl
      · exact e.1
      · exact e.2.1
      · exact e.2.2.1
      · exact e.2.2.2.1
      · exact e.2.2.2.2
    · rw [nmN_6] at h
      have b0 := hc 0 (by decide)
      have b1 := hc 1 (by decide)
      have b2 := hc 2 (by decide)
      have b3 := hc 3 (by decide)
      have b4 := hc 4 (by decide)
      have b5 := hc 5 (by decide)
      omega
theorem nS_3 {c : Nat → Nat} {n : Nat} (hn : n ≤ 6) (hc : ∀ i, i < n → 97 ≤ c i ∧ c i ≤ 122) : nmS 3 c n ↔ nmN c n = 28530 := by
  constructor
  · rintro ⟨h1, h2⟩
    have e : n = 2 := h1
    subst e
    have c0 : c 0 = 111 := h2 0 (by decide)
    have c1 : c 1 = 114 := h2 1 (by decide)
    rw [nmN_2, c0, c1]
  · intro h
    rcases ex7 hn with rfl | rfl | rfl | rfl | rfl | rfl | rfl
    · rw [nmN_0] at h
      omega
    · rw [nmN_1] at h
      have b0 := hc 0 (by decide)
      omega
    · rw [nmN_2] at h
      have b0 := hc 0 (by decide)
      have b1 := hc 1 (by decide)
      have e : c 0 = 111 ∧ c 1 = 114 := by omega
      refine ⟨rfl, fun j hj => ?_⟩
      have hj2 : j < 2 := hj
      rcases (show j = 0 ∨ j = 1 by omega) with rfl | rfl
      · exact e.1
      · exact e.2
    · rw [nmN_3] at h
      have b0 := hc 0 (by decide)
      have b1 := hc 1 (by decide)
      have b2 := hc 2 (by decide)
      omega
    · rw [nmN_4] at h
      have b0 := hc 0 (by decide)
      have b1 := hc 1 (by decide)
      have b2 := hc 2 (by decide)
      have b3 := hc 3 (by decide)
      omega
    · rw [nmN_5] at h
      have b0 := hc 0 (by decide)
      have b1 := hc 1 (by decide)
      have b2 := hc 2 (by decide)
      have b3 := hc 3 (by decide)
      have b4 := hc 4 (by decide)
      omega
    · rw [nmN_6] at h
      have b0 := hc 0 (by decide)
      have b1 := hc 1 (by decide)
      have b2 := hc 2 (by decide)
      have b3 := hc 3 (by decide)
      have b4 := hc 4 (by decide)
      have b5 := hc 5 (by decide)
      omega
theorem nS_4 {c : Nat → Nat} {n : Nat} (hn : n ≤ 6) (hc : ∀ i, i < n → 97 ≤ c i ∧ c i ≤ 122) : nmS 4 c n ↔ nmN c n = 6385252 := by
  constructor
  · rintro ⟨h1, h2⟩
    have e : n = 3 := h1
    subst e
    have c0 : c 0 = 97 := h2 0 (by decide)
    have c1 : c 1 = 110 := h2 1 (by decide)
    have c2 : c 2 = 100 := h2 2 (by decide)
    rw [nmN_3, c0, c1, c2]
  · intro h
    rcases ex7 hn with rfl | rfl | rfl | rfl | rfl | rfl | rfl
    · rw [nmN_0] at h
      omega
    · rw [nmN_1] at h
      have b0 := hc 0 (by decide)
      omega
    · rw [nmN_2] at h
      have b0 := hc 0 (by decide)
      have b1 := hc 1 (by decide)
      omega
    · rw [nmN_3] at h
      have b0 := hc 0 (by decide)
      have b1 := hc 1 (by decide)
      have b2 := hc 2 (by decide)
      have e : c 0 = 97 ∧ c 1 = 110 ∧ c 2 = 100 := by omega
      refine ⟨rfl, fun j hj => ?_⟩
      have hj2 : j < 3 := hj
      rcases (show j = 0 ∨ j = 1 ∨ j = 2 by omega) with rfl | rfl | rfl
      · exact e.1
      · exact e.2.1
      · exact e.2.2
    · rw [nmN_4] at h
      have b0 := hc 0 (by decide)
      have b1 := hc 1 (by decide)
      have b2 := hc 2 (by decide)
      have b3 := hc 3 (by decide)
      omega
    · rw [nmN_5] at h
      have b0 := hc 0 (by decide)
      have b1 := hc 1 (by decide)
      have b2 := hc 2 (by decide)
      have b3 := hc 3 (by decide)
      have b4 := hc 4 (by decide)
      omega
    · rw [nmN_6] at h
      have b0 := hc 0 (by decide)
      have b1 := hc 1 (by decide)
      have b2 := hc 2 (by decide)
      have b3 := hc 3 (by decide)
      have b4 := hc 4 (by decide)
      have b5 := hc 5 (by decide)
      omega
theorem nS_5 {c : Nat → Nat} {n : Nat} (hn : n ≤ 6) (hc : ∀ i, i < n → 97 ≤ c i ∧ c i ≤ 122) : nmS 5 c n ↔ nmN c n = 1818588019 := by
  constructor
  · rintro ⟨h1, h2⟩
    have e : n = 4 := h1
    subst e
    have c0 : c 0 = 108 := h2 0 (by decide)
    have c1 : c 1 = 101 := h2 1 (by decide)
    have c2 : c 2 = 115 := h2 2 (by decide)
    have c3 : c 3 = 115 := h2 3 (by decide)
    rw [nmN_4, c0, c1, c2, c3]
  · intro h
    rcases ex7 hn with rfl | rfl | rfl | rfl | rfl | rfl | rfl
    · rw [nmN_0] at h
      omega
    · rw [nmN_1] at h
      have b0 := hc 0 (by decide)
      omega
    · rw [nmN_2] at h
      have b0 := hc 0 (by decide)
      have b1 := hc 1 (by decide)
      omega
    · rw [nmN_3] at h
      have b0 := hc 0 (by decide)
      have b1 := hc 1 (by decide)
      have b2 := hc 2 (by decide)
      omega
    · rw [nmN_4] at h
      have b0 := hc 0 (by decide)
      have b1 := hc 1 (by decide)
      have b2 := hc 2 (by decide)
      have b3 := hc 3 (by decide)
      have e : c 0 = 108 ∧ c 1 = 101 ∧ c 2 = 115 ∧ c 3 = 115 := by omega
      refine ⟨rfl, fun j hj => ?_⟩
      have hj2 : j < 4 := hj
      rcases (show j = 0 ∨ j = 1 ∨ j = 2 ∨ j = 3 by omega) with rfl | rfl | rfl | rfl
      · exact e.1
      · exact e.2.1
      · exact e.2.2.1
      · exact e.2.2.2
    · rw [nmN_5] at h
      have b0 := hc 0 (by decide)
      have b1 := hc 1 (by decide)
      have b2 := hc 2 (by decide)
      have b3 := hc 3 (by decide)
      have b4 := hc 4 (by decide)
      omega
    · rw [nmN_6] at h
      have b0 := hc 0 (by decide)
      have b1 := hc 1 (by decide)
      have b2 := hc 2 (by decide)
      have b3 := hc 3 (by decide)
      have b4 := hc 4 (by decide)
      have b5 := hc 5 (by decide)
      omega
theorem nS_6 {c : Nat → Nat} {n : Nat} (hn : n ≤ 6) (hc : ∀ i, i < n → 97 ≤ c i ∧ c i ≤ 122) : nmS 6 c n ↔ nmN c n = 1836021349 := by
  constructor
  · rintro ⟨h1, h2⟩
    have e : n = 4 := h1
    subst e
    have c0 : c 0 = 109 := h2 0 (by decide)
    have c1 : c 1 = 111 := h2 1 (by decide)
    have c2 : c 2 = 118 := h2 2 (by decide)
    have c3 : c 3 = 101 := h2 3 (by decide)
    rw [nmN_4, c0, c1, c2, c3]
  · intro h
    rcases ex7 hn with rfl | rfl | rfl | rfl | rfl | rfl | rfl
    · rw [nmN_0] at h
      omega
    · rw [nmN_1] at h
      have b0 := hc 0 (by decide)
      omega
    · rw [nmN_2] at h
      have b0 := hc 0 (by decide)
      have b1 := hc 1 (by decide)
      omega
    · rw [nmN_3] at h
      have b0 := hc 0 (by decide)
      have b1 := hc 1 (by decide)
      have b2 := hc 2 (by decide)
      omega
    · rw [nmN_4] at h
      have b0 := hc 0 (by decide)
      have b1 := hc 1 (by decide)
      have b2 := hc 2 (by decide)
      have b3 := hc 3 (by decide)
      have e : c 0 = 109 ∧ c 1 = 111 ∧ c 2 = 118 ∧ c 3 = 101 := by omega
      refine ⟨rfl, fun j hj => ?_⟩
      have hj2 : j < 4 := hj
      rcases (show j = 0 ∨ j = 1 ∨ j = 2 ∨ j = 3 by omega) with rfl | rfl | rfl | rfl
      · exact e.1
      · exact e.2.1
      · exact e.2.2.1
      · exact e.2.2.2
    · rw [nmN_5] at h
      have b0 := hc 0 (by decide)
      have b1 := hc 1 (by decide)
      have b2 := hc 2 (by decide)
      have b3 := hc 3 (by decide)
      have b4 := hc 4 (by decide)
      omega
    · rw [nmN_6] at h
      have b0 := hc 0 (by decide)
      have b1 := hc 1 (by decide)
      have b2 := hc 2 (by decide)
      have b3 := hc 3 (by decide)
      have b4 := hc 4 (by decide)
      have b5 := hc 5 (by decide)
      omega
theorem nS_7 {c : Nat → Nat} {n : Nat} (hn : n ≤ 6) (hc : ∀ i, i < n → 97 ≤ c i ∧ c i ≤ 122) : nmS 7 c n ↔ nmN c n = 1953854062 := by
  constructor
  · rintro ⟨h1, h2⟩
    have e : n = 4 := h1
    subst e
    have c0 : c 0 = 116 := h2 0 (by decide)
    have c1 : c 1 = 117 := h2 1 (by decide)
    have c2 : c 2 = 114 := h2 2 (by decide)
    have c3 : c 3 = 110 := h2 3 (by decide)
    rw [nmN_4, c0, c1, c2, c3]
  · intro h
    rcases ex7 hn with rfl | rfl | rfl | rfl | rfl | rfl | rfl
    · rw [nmN_0] at h
      omega
    · rw [nmN_1] at h
      have b0 := hc 0 (by decide)
      omega
    · rw [nmN_2] at h
      have b0 := hc 0 (by decide)
      have b1 := hc 1 (by decide)
      omega
    · rw [nmN_3] at h
      have b0 := hc 0 (by decide)
      have b1 := hc 1 (by decide)
      have b2 := hc 2 (by decide)
      omega
    · rw [nmN_4] at h
      have b0 := hc 0 (by decide)
      have b1 := hc 1 (by decide)
      have b2 := hc 2 (by decide)
      have b3 := hc 3 (by decide)
      have e : c 0 = 116 ∧ c 1 = 117 ∧ c 2 = 114 ∧ c 3 = 110 := by omega
      refine ⟨rfl, fun j hj => ?_⟩
      have hj2 : j < 4 := hj
      rcases (show j = 0 ∨ j = 1 ∨ j = 2 ∨ j = 3 by omega) with rfl | rfl | rfl | rfl
      · exact e.1
      · exact e.2.1
      · exact e.2.2.1
      · exact e.2.2.2
    · rw [nmN_5] at h
      have b0 := hc 0 (by decide)
      have b1 := hc 1 (by decide)
      have b2 := hc 2 (by decide)
      have b3 := hc 3 (by decide)
      have b4 := hc 4 (by decide)
      omega
    · rw [nmN_6] at h
      have b0 := hc 0 (by decide)
      have b1 := hc 1 (by decide)
      have b2 := hc 2 (by decide)
      have b3 := hc 3 (by decide)
      have b4 := hc 4 (by decide)
      have b5 := hc 5 (by decide)
      omega
theorem nS_8 {c : Nat → Nat} {n : Nat} (hn : n ≤ 6) (hc : ∀ i, i < n → 97 ≤ c i ∧ c i ≤ 122) : nmS 8 c n ↔ nmN c n = 1718380912 := by
  constructor
  · rintro ⟨h1, h2⟩
    have e : n = 4 := h1
    subst e
    have c0 : c 0 = 102 := h2 0 (by decide)
    have c1 : c 1 = 108 := h2 1 (by decide)
    have c2 : c 2 = 105 := h2 2 (by decide)
    have c3 : c 3 = 112 := h2 3 (by decide)
    rw [nmN_4, c0, c1, c2, c3]
  · intro h
    rcases ex7 hn with rfl | rfl | rfl | rfl | rfl | rfl | rfl
    · rw [nmN_0] at h
      omega
    · rw [nmN_1] at h
      have b0 := hc 0 (by decide)
      omega
    · rw [nmN_2] at h
      have b0 := hc 0 (by decide)
      have b1 := hc 1 (by decide)
      omega
    · rw [nmN_3] at h
      have b0 := hc 0 (by decide)
      have b1 := hc 1 (by decide)
      have b2 := hc 2 (by decide)
      omega
    · rw [nmN_4] at h
      have b0 := hc 0 (by decide)
      have b1 := hc 1 (by decide)
      have b2 := hc 2 (by decide)
      have b3 := hc 3 (by decide)
      have e : c 0 = 102 ∧ c 1 = 108 ∧ c 2 = 105 ∧ c 3 = 112 := by omega
      refine ⟨rfl, fun j hj => ?_⟩
      have hj2 : j < 4 := hj
      rcases (show j = 0 ∨ j = 1 ∨ j = 2 ∨ j = 3 by omega) with rfl | rfl | rfl | rfl
      · exact e.1
      · exact e.2.1
      · exact e.2.2.1
      · exact e.2.2.2
    · rw [nmN_5] at h
      have b0 := hc 0 (by decide)
      have b1 := hc 1 (by decide)
      have b2 := hc 2 (by decide)
      have b3 := hc 3 (by decide)
      have b4 := hc 4 (by decide)
      omega
    · rw [nmN_6] at h
      have b0 := hc 0 (by decide)
      have b1 := hc 1 (by decide)
      have b2 := hc 2 (by decide)
      have b3 := hc 3 (by decide)
      have b4 := hc 4 (by decide)
      have b5 := hc 5 (by decide)
      omega
theorem nS_9 {c : Nat → Nat} {n : Nat} (hn : n ≤ 6) (hc : ∀ i, i < n → 97 ≤ c i ∧ c i ≤ 122) : nmS 9 c n ↔ nmN c n = 7497072 := by
  constructor
  · rintro ⟨h1, h2⟩
    have e : n = 3 := h1
    subst e
    have c0 : c 0 = 114 := h2 0 (by decide)
    have c1 : c 1 = 101 := h2 1 (by decide)
    have c2 : c 2 = 112 := h2 2 (by decide)
    rw [nmN_3, c0, c1, c2]
  · intro h
    rcases ex7 hn with rfl | rfl | rfl | rfl | rfl | rfl | rfl
    · rw [nmN_0] at h
      omega
    · rw [nmN_1] at h
      have b0 := hc 0 (by decide)
      omega
    · rw [nmN_2] at h
      have b0 := hc 0 (by decide)
      have b1 := hc 1 (by decide)
      omega
    · rw [nmN_3] at h
      have b0 := hc 0 (by decide)
      have b1 := hc 1 (by decide)
      have b2 := hc 2 (by decide)
      have e : c 0 = 114 ∧ c 1 = 101 ∧ c 2 = 112 := by omega
      refine ⟨rfl, fun j hj => ?_⟩
      have hj2 : j < 3 := hj
      rcases (show j = 0 ∨ j = 1 ∨ j = 2 by omega) with rfl | rfl | rfl
      · exact e.1
      · exact e.2.1
      · exact e.2.2
    · rw [nmN_4] at h
      have b0 := hc 0 (by decide)
      have b1 := hc 1 (by decide)
      have b2 := hc 2 (by decide)
      have b3 := hc 3 (by decide)
      omega
    · rw [nmN_5] at h
      have b0 := hc 0 (by decide)
      have b1 := hc 1 (by decide)
      have b2 := hc 2 (by decide)
      have b3 := hc 3 (by decide)
      have b4 := hc 4 (by decide)
      omega
    · rw [nmN_6] at h
      have b0 := hc 0 (by decide)
      have b1 := hc 1 (by decide)
      have b2 := hc 2 (by decide)
      have b3 := hc 3 (by decide)
      have b4 := hc 4 (by decide)
      have b5 := hc 5 (by decide)
      omega
theorem iL_eqN {x y : Nat} (hx : x < 9223372036854775808) (hy : y < 9223372036854775808) : iL (x : Int) = iL (y : Int) ↔ x = y := by
  constructor
  · intro h
    have := congrArg Int64.toInt h
    rw [iL_toInt (by omega) (by omega), iL_toInt (by omega) (by omega)] at this
    omega
  · intro h; rw [h]
theorem nm_eq {c : Nat → Nat} {n : Nat} (hn : n ≤ 6) (hc : ∀ i, i < n → 97 ≤ c i ∧ c i ≤ 122) : (if iL (nmN c n : Int) = 1650551916 then 0 else if iL (nmN c n : Int) = 6451064 then 1 else if iL (nmN c n : Int) = 482854661733 then 2 else if iL (nmN c n : Int) = 28530 then 3 else if iL (nmN c n : Int) = 6385252 then 4 else if iL (nmN c n : Int) = 1818588019 then 5 else if iL (nmN c n : Int) = 1836021349 then 6 else if iL (nmN c n : Int) = 1953854062 then 7 else if iL (nmN c n : Int) = 1718380912 then 8 else if iL (nmN c n : Int) = 7497072 then 9 else -4 : Int32) = iI (nmZ c n) := by
  have hb := nmN_b (c := c) n hn (fun i hi => by have := hc i hi; omega)
  have hb2 : nmN c n < 9223372036854775808 := Nat.lt_of_lt_of_le hb (Nat.le_trans (Nat.pow_le_pow_right (n := 256) (by decide) hn) (by decide))
  have ek : nmK c n 10 = if nmN c n = 7497072 then 9 else if nmN c n = 1718380912 then 8 else if nmN c n = 1953854062 then 7 else if nmN c n = 1836021349 then 6 else if nmN c n = 1818588019 then 5 else if nmN c n = 6385252 then 4 else if nmN c n = 28530 then 3 else if nmN c n = 482854661733 then 2 else if nmN c n = 6451064 then 1 else if nmN c n = 1650551916 then 0 else 10 := by
    simp only [nmK, nS_0 hn hc, nS_1 hn hc, nS_2 hn hc, nS_3 hn hc, nS_4 hn hc, nS_5 hn hc, nS_6 hn hc, nS_7 hn hc, nS_8 hn hc, nS_9 hn hc]
  unfold nmZ
  rw [ek]
  have q0 : (iL (nmN c n : Int) = 1650551916) ↔ nmN c n = 1650551916 := iL_eqN (y := 1650551916) hb2 (by decide)
  have q1 : (iL (nmN c n : Int) = 6451064) ↔ nmN c n = 6451064 := iL_eqN (y := 6451064) hb2 (by decide)
  have q2 : (iL (nmN c n : Int) = 482854661733) ↔ nmN c n = 482854661733 := iL_eqN (y := 482854661733) hb2 (by decide)
  have q3 : (iL (nmN c n : Int) = 28530) ↔ nmN c n = 28530 := iL_eqN (y := 28530) hb2 (by decide)
  have q4 : (iL (nmN c n : Int) = 6385252) ↔ nmN c n = 6385252 := iL_eqN (y := 6385252) hb2 (by decide)
  have q5 : (iL (nmN c n : Int) = 1818588019) ↔ nmN c n = 1818588019 := iL_eqN (y := 1818588019) hb2 (by decide)
  have q6 : (iL (nmN c n : Int) = 1836021349) ↔ nmN c n = 1836021349 := iL_eqN (y := 1836021349) hb2 (by decide)
  have q7 : (iL (nmN c n : Int) = 1953854062) ↔ nmN c n = 1953854062 := iL_eqN (y := 1953854062) hb2 (by decide)
  have q8 : (iL (nmN c n : Int) = 1718380912) ↔ nmN c n = 1718380912 := iL_eqN (y := 1718380912) hb2 (by decide)
  have q9 : (iL (nmN c n : Int) = 7497072) ↔ nmN c n = 7497072 := iL_eqN (y := 7497072) hb2 (by decide)
  simp only [q0, q1, q2, q3, q4, q5, q6, q7, q8, q9]
  generalize nmN c n = x
  by_cases z0 : x = 1650551916
  · subst z0; rfl
  by_cases z1 : x = 6451064
  · subst z1; rfl
  by_cases z2 : x = 482854661733
  · subst z2; rfl
  by_cases z3 : x = 28530
  · subst z3; rfl
  by_cases z4 : x = 6385252
  · subst z4; rfl
  by_cases z5 : x = 1818588019
  · subst z5; rfl
  by_cases z6 : x = 1836021349
  · subst z6; rfl
  by_cases z7 : x = 1953854062
  · subst z7; rfl
  by_cases z8 : x = 1718380912
  · subst z8; rfl
  by_cases z9 : x = 7497072
  · subst z9; rfl
  simp only [z0, z1, z2, z3, z4, z5, z6, z7, z8, z9, if_false]
  rfl
section TKS
variable {tl : Nat} {tb : Nat → Nat} {p k n : Nat}
theorem tk_end (hk : skP tl tb p = k) (h : tl ≤ k) : tok tl tb p = (0, k, k, 0) := by
  unfold tok tokA
  rw [hk, if_pos h]
theorem tk_nm (hk : skP tl tb p = k) (h1 : ¬ tl ≤ k) (h2 : isLt (ch tl tb k) = true) (he : ltE tl tb k = k + n) : tok tl tb p = (if nmZ (fun i => ch tl tb (k + i)) n = -4 then 3 else 1, k, k + n, (ltK tl tb k : Int)) ∧ (¬ nmZ (fun i => ch tl tb (k + i)) n = -4 → (ltK tl tb k : Int) = nmZ (fun i => ch tl tb (k + i)) n) := by
  have e : ltK tl tb k = nmK (fun i => ch tl tb (k + i)) n 10 := by
    unfold ltK
    rw [he, show k + n - k = n by omega]
  unfold tok tokA
  rw [hk, if_neg h1, if_pos h2, he, e]
  unfold nmZ
  by_cases z : nmK (fun i => ch tl tb (k + i)) n 10 < 10
  · rw [if_pos z, if_pos z, if_neg (by omega)]
    exact ⟨rfl, fun _ => rfl⟩
  · rw [if_neg z, if_neg z, if_pos rfl]
    exact ⟨rfl, fun q => absurd rfl q⟩
theorem tk_fg (hk : skP tl tb p = k) (h1 : ¬ tl ≤ k) (h2 : ¬ isLt (ch tl tb k) = true) (h3 : isFg (ch tl tb k) = true ∨ ch tl tb k = 45) (he : fgE tl tb (fgB tl tb k) = fgB tl tb k + n) : tok tl tb p = (if 1 ≤ n ∧ n ≤ 2 then 2 else 3, k, fgB tl tb k + n, if cR tl tb k = 45 then -nv (fun i => ch tl tb (fgB tl tb k + i)) n else nv (fun i => ch tl tb (fgB tl tb k + i)) n) := by
  unfold tok tokA
  rw [hk, if_neg h1, if_neg h2, if_pos h3]
  unfold fgV
  rw [he, show fgB tl tb k + n - fgB tl tb k = n by omega]
  have e1 : (fgB tl tb k < fgB tl tb k + n ∧ fgB tl tb k + n ≤ fgB tl tb k + 2) ↔ (1 ≤ n ∧ n ≤ 2) := by omega
  have e2 : (cR tl tb k = 45) ↔ ch tl tb k = 45 := cR_c (c := 45) (by decide)
  simp only [e1, e2]
theorem tk_no (hk : skP tl tb p = k) (h1 : ¬ tl ≤ k) (h2 : ¬ isLt (ch tl tb k) = true) (h3 : ¬ (isFg (ch tl tb k) = true ∨ ch tl tb k = 45)) : tok tl tb p = (3, k, k, 0) := by
  unfold tok tokA
  rw [hk, if_neg h1, if_neg h2, if_neg h3]
theorem nv_s {c : Nat → Nat} (h : n < 2) : 10 * nv c n + (c n : Int) - 48 = nv c (n + 1) := by
  unfold nv
  rcases (show n = 0 ∨ n = 1 by omega) with rfl | rfl
  · simp
  · simp; omega
theorem nv_k {c : Nat → Nat} (h : 2 ≤ n) : nv c n = nv c (n + 1) := by
  unfold nv
  rw [if_neg (by omega), if_neg (by omega), if_neg (by omega), if_neg (by omega)]
theorem nv_b {c : Nat → Nat} (h : ∀ i, i < n → c i < 256) : -10000 ≤ nv c n ∧ nv c n ≤ 10000 := by
  unfold nv
  split
  · omega
  · have h0 := h 0 (by omega)
    split
    · omega
    · have h1 := h 1 (by omega)
      omega
end TKS
/-- the reference's token -/
def TKI (I : Nat → Int32) (t : TT) : Prop := I 11 = nI t.2.1 ∧ (t.1 = 3 → I 8 = 1 ∧ I 9 = nI t.2.1) ∧ (¬ t.1 = 3 → I 8 = 0 ∧ I 10 = nI t.2.2.1 ∧ I 12 = nI t.1 ∧ (t.1 = 1 ∨ t.1 = 2 → I 13 = iI t.2.2.2))
def TP (I : Nat → Int32) (a : Nat → Nat → Int32) (tl : Nat) (tb : Nat → Nat) : Prop := I 6 = nI tl ∧ tl ≤ 160 ∧ ∀ j, j < tl → a 5 j = nI (tb j) ∧ tb j < 256
theorem sk_y {tl : Nat} {tb : Nat → Nat} {k : Nat} (h : cR tl tb k = 32) (hk : k < 400) : skP tl tb k = skP tl tb (k + 1) := eR_y (f := fun k => decide (ch tl tb k = 32)) (decide_eq_true ((cR_c (c := 32) (by decide)).mp h)) hk
theorem sk_n {tl : Nat} {tb : Nat → Nat} {k : Nat} (h : ¬ cR tl tb k = 32) : skP tl tb k = k := eR_n (f := fun k => decide (ch tl tb k = 32)) (decide_eq_false (fun z => h ((cR_c (c := 32) (by decide)).mpr z)))
theorem lt_y {tl : Nat} {tb : Nat → Nat} {k : Nat} (h : 97 ≤ cR tl tb k ∧ cR tl tb k ≤ 122) (hk : k < 400) : ltE tl tb k = ltE tl tb (k + 1) := eR_y (f := fun k => isLt (ch tl tb k)) (cR_lt.mp h) hk
theorem lt_n {tl : Nat} {tb : Nat → Nat} {k : Nat} (h : ¬ (97 ≤ cR tl tb k ∧ cR tl tb k ≤ 122)) : ltE tl tb k = k := eR_n (f := fun k => isLt (ch tl tb k)) (Bool.eq_false_iff.mpr (fun z => h (cR_lt.mpr z)))
theorem fg_y {tl : Nat} {tb : Nat → Nat} {k : Nat} (h : 48 ≤ cR tl tb k ∧ cR tl tb k ≤ 57) (hk : k < 400) : fgE tl tb k = fgE tl tb (k + 1) := eR_y (f := fun k => isFg (ch tl tb k)) (cR_fg.mp h) hk
theorem fg_n {tl : Nat} {tb : Nat → Nat} {k : Nat} (h : ¬ (48 ≤ cR tl tb k ∧ cR tl tb k ≤ 57)) : fgE tl tb k = k := eR_n (f := fun k => isFg (ch tl tb k)) (Bool.eq_false_iff.mpr (fun z => h (cR_fg.mpr z)))
theorem cR_tl {tl : Nat} {tb : Nat → Nat} {k : Nat} (h : 0 ≤ cR tl tb k) : k < tl := by
  unfold cR at h
  split at h <;> omega
theorem nm_step {tl : Nat} {tb : Nat → Nat} {k n : Nat} (h : 97 ≤ cR tl tb (k + n) ∧ cR tl tb (k + n) ≤ 122) (hn : n < 6) (hc : ∀ i, i < n → 97 ≤ ch tl tb (k + i) ∧ ch tl tb (k + i) ≤ 122) : (iL (nmN (fun i => ch tl tb (k + i)) n : Int) <<< ((8 : Int32).toInt64 &&& 63)) ||| iL (cR tl tb (k + n)) = iL (nmN (fun i => ch tl tb (k + i)) (n + 1) : Int) := by
  have hb := nmN_b (c := fun i => ch tl tb (k + i)) n (by omega) (fun i hi => by have := hc i hi; omega)
  have hp := p40 (n := n) (by omega)
  have e := cR_in (tl := tl) (tb := tb) (k := k + n) (by omega)
  rw [e, sh8 (by omega) (by omega)]
  show _ = iL ((if n < 6 then 256 * nmN (fun i => ch tl tb (k + i)) n + ch tl tb (k + n) else 0 : Nat) : Int)
  rw [if_pos hn]
theorem nm_stop {c : Nat → Nat} {n : Nat} (hn : 6 ≤ n) : (0 : Int64) = iL (nmN c (n + 1) : Int) := by
  show _ = iL ((if n < 6 then 256 * nmN c n + c n else 0 : Nat) : Int)
  rw [if_neg (by omega)]
  rfl
theorem fgB_r {tl : Nat} {tb : Nat → Nat} {k : Nat} : (if cR tl tb k = 45 then k + 1 else k) = fgB tl tb k := by
  unfold fgB
  by_cases z : ch tl tb k = 45
  · rw [if_pos z, if_pos (show cR tl tb k = 45 from (cR_c (c := 45) (by decide)).mpr z)]
  · rw [if_neg z, if_neg (show ¬ cR tl tb k = 45 from fun y => z ((cR_c (c := 45) (by decide)).mp y))]
theorem sub_n (k n : Nat) : (↑(k + n) : Int) - (↑k : Int) = (↑n : Int) := by omega
set_option maxHeartbeats 2000000 in
set_option maxRecDepth 100000 in
theorem c_Mo_next (l : Launch) (D : va_G) (cT : Nat → ClassId) (ad : Nat → Nat) (I : Nat → Int32) (J : Nat → Int64) (a : Nat → Nat → Int32) (g : Nat → Nat → Int64)  (wr tl p0 : Nat) (tb : Nat → Nat) (hT : TP I a tl tb) (hwr : I 8 = nI wr) (hw4 : wr ≤ 4) (hp : wr = 0 → I 10 = nI p0 ∧ p0 ≤ tl) : MMv l D cT ad y_Mo_next b_Mo_next 4 none 1 25 [] I J a g (fun u => u.2 = (J, a, g) ∧ if 0 < wr then u.1 = I else (∀ q, q < 8 ∨ 13 < q → u.1 q = I q) ∧ TKI u.1 (tok tl tb p0)) := by
  refine mo_entv (by decide) rfl (Nat.le_of_ble_eq_true rfl) ?_
  intro p e s m args below meth c Q hC hK hM hret ls hl
  have hx := hC.1
  have hb := hC.2.1
  replace hl : lv_has ls 4 [(0, .ref (ad 46))] := hl
  have htb : ∀ j, j < tl → tb j < 256 := fun j hj => (hT.2.2 j hj).2
  have h160 := hT.2.1
  refine lv_aload_n hx hb d_Mo_next_0 rfl (lv_at hl 0 rfl) ?_
  refine mo_geti hC hK hM 8 wf_Mo_95 rfl rfl (by decide) (v := nI wr) (hwr) d_Mo_next_1 ?_
  refine nz_le hx hb wr (by omega) d_Mo_next_4 (tgt := 8) (by decide) (fun h1 => ?_) (fun h1 => ?_)
  · skip
    have hL8 : ∀ (nn : Nat) (k : Nat) (H : Heap) (locs : List Loc) (ls : Array Slot), 400 - k < nn → (skP tl tb k = skP tl tb p0) → (k ≤ tl) → MO D cT ad (upd I 10 (nI k)) J a g s.heap H locs → lv_has ls 4 [(0, .ref (ad 46))] → W p l e (rmOf 1 25) s m args below meth c H locs 0 0 Q (F0 m 8 ls []) := by
      intro nn
      induction nn with
      | zero =>
        intro k H locs ls hmeas8 hsk hkt hM hl
        exact absurd hmeas8 (Nat.not_lt_zero _)
      | succ nn ih8 =>
        intro k H locs ls hmeas8 hsk hkt hM hl
        have hw0 : I 8 = 0 := by rw [hwr, show wr = 0 by omega]; rfl
        refine lv_aload_n hx hb d_Mo_next_8 rfl (lv_at hl 0 rfl) ?_
        refine lv_aload_n hx hb d_Mo_next_9 rfl (lv_at hl 0 rfl) ?_
        refine mo_geti hC hK hM 10 wf_Mo_124 rfl rfl (by decide) (v := nI k) (rfl) d_Mo_next_10 ?_
        refine mo_callr (np := 1) hC hK hM (c_Mo_byteAt l D cT ad (upd I 10 (nI k)) J a g (nI k) k (bA_h hT.1 hT.2.1 (by omega))) rfl ⟨wl_Mo_127, wi_Mo_byteAt, ws_Mo_byteAt, wc_Mo_byteAt, wn_Mo⟩ ⟨by decide, by decide, by decide +kernel⟩ ⟨Nat.le_of_ble_eq_true rfl, Nat.le_of_ble_eq_true rfl⟩ hl.1 rfl (rest := []) rfl (Nat.le_of_ble_eq_true rfl) ⟨Nat.zero_le _, Nat.zero_le _⟩ d_Mo_next_13 (fun rr hrr => ?_)
        replace hrr : rr = iI (cR tl tb k) := hrr.trans (bA_v (k := k) hT.1 hT.2.1 (by omega) (fun j hj => (hT.2.2 j hj).1))
        subst hrr
        have hcb_k := cR_b htb (k)
        refine lv_bipush (v := 32) hx hb d_Mo_next_16 (by decide) ?_
        refine zc_ne hx hb (cR tl tb k) 32 (by omega) (by omega) (by omega) (by omega) d_Mo_next_18 (tgt := 34) (by decide) (fun h2 => ?_) (fun h2 => ?_)
        · skip
          replace hsk : skP tl tb p0 = k := by rw [← hsk]; exact sk_n (by omega)
          refine lv_aload_n hx hb d_Mo_next_34 rfl (lv_at hl 0 rfl) ?_
          refine lv_aload_n hx hb d_Mo_next_35 rfl (lv_at hl 0 rfl) ?_
          refine mo_geti hC hK hM 10 wf_Mo_124 rfl rfl (by decide) (v := nI k) (rfl) d_Mo_next_36 ?_
          refine mo_puti hC hK hM 11 wf_Mo_98 rfl rfl (by decide) rfl (by decide +kernel) (x := nI k) d_Mo_next_39 (fun H locs hM => ?_)
          refine lv_aload_n hx hb d_Mo_next_42 rfl (lv_at hl 0 rfl) ?_
          refine lv_aload_n hx hb d_Mo_next_43 rfl (lv_at hl 0 rfl) ?_
          refine mo_geti hC hK hM 10 wf_Mo_124 rfl rfl (by decide) (v := nI k) (rfl) d_Mo_next_44 ?_
          refine mo_callr (np := 1) hC hK hM (c_Mo_byteAt l D cT ad (upd (upd I 10 (nI k)) 11 (nI k)) J a g (nI k) k (bA_h hT.1 hT.2.1 (by omega))) rfl ⟨wl_Mo_127, wi_Mo_byteAt, ws_Mo_byteAt, wc_Mo_byteAt, wn_Mo⟩ ⟨by decide, by decide, by decide +kernel⟩ ⟨Nat.le_of_ble_eq_true rfl, Nat.le_of_ble_eq_true rfl⟩ hl.1 rfl (rest := []) rfl (Nat.le_of_ble_eq_true rfl) ⟨Nat.zero_le _, Nat.zero_le _⟩ d_Mo_next_47 (fun rr hrr => ?_)
          replace hrr : rr = iI (cR tl tb k) := hrr.trans (bA_v (k := k) hT.1 hT.2.1 (by omega) (fun j hj => (hT.2.2 j hj).1))
          subst hrr
          have hcb_k := cR_b htb (k)
          refine lv_istore_n (lv' := [(1, .int (iI (cR tl tb k))), (0, .ref (ad 46))]) hx hb d_Mo_next_50 rfl hl (by decide) rfl (fun ls hl => ?_)
          refine lv_iload_n hx hb d_Mo_next_51 rfl (lv_at hl 0 rfl) ?_
          refine lv_bipush (v := (-4)) hx hb d_Mo_next_52 (by decide) ?_
          refine zc_ne hx hb (cR tl tb k) (-4) (by omega) (by omega) (by omega) (by omega) d_Mo_next_54 (tgt := 65) (by decide) (fun h3 => ?_) (fun h3 => ?_)
          · skip
            refine lv_iload_n hx hb d_Mo_next_65 rfl (lv_at hl 0 rfl) ?_
            refine lv_i2l (v := iL (cR tl tb k)) hx hb d_Mo_next_66 (iI_l (z := cR tl tb k) (by omega) (by omega)) ?_
            refine lv_ldc2 (v := 97) hx hb hC.2.2.2.1 (hC.2.2.2.2 _ wx_Mo_134) d_Mo_next_67 ?_
            refine lv_ldc2 (v := 122) hx hb hC.2.2.2.1 (hC.2.2.2.2 _ wx_Mo_136) d_Mo_next_70 ?_
            refine st_calli (np := 3) hC (c_Mo_in l (iL (cR tl tb k)) 97 122 (cR tl tb k) 97 122 (iL_toInt (by omega) (by omega)) rfl rfl) ⟨wl_Mo_91, wt_Mo_in, wc_Mo_in, wn_Mo⟩ ⟨by decide, by decide, by decide +kernel⟩ ⟨Nat.le_of_ble_eq_true rfl, Nat.le_of_ble_eq_true rfl⟩ hl.1 rfl (rest := []) rfl (Nat.le_of_ble_eq_true rfl) ⟨Nat.zero_le _, Nat.zero_le _⟩ d_Mo_next_73 (fun rr hrr => ?_)
            subst hrr
            refine bz_eq (tgt := 197) hx hb d_Mo_next_76 (by decide) (fun h4 => ?_) (fun h4 => ?_)
            · skip
              have hL217 : ∀  (H : Heap) (locs : List Loc) (ls : Array Slot), (¬ isLt (ch tl tb k) = true) → (isFg (ch tl tb k) = true ∨ ch tl tb k = 45) → MO D cT ad (upd (upd I 10 (nI k)) 11 (nI k)) J a g s.heap H locs → lv_has ls 4 [(0, .ref (ad 46)), (1, .int (iI (cR tl tb k)))] → W p l e (rmOf 1 25) s m args below meth c H locs 0 0 Q (F0 m 217 ls []) := by
                intro  H locs ls hnl hfg hM hl
                refine lv_iload_n hx hb d_Mo_next_217 rfl (lv_at hl 1 rfl) ?_
                refine lv_bipush (v := 45) hx hb d_Mo_next_218 (by decide) ?_
                have hJ5 : ∀ (H : Heap) (locs : List Loc) (ls : Array Slot), MO D cT ad (upd (upd I 10 (nI k)) 11 (nI k)) J a g s.heap H locs → lv_has ls 4 [(0, .ref (ad 46)), (1, .int (iI (cR tl tb k)))] → W p l e (rmOf 1 25) s m args below meth c H locs 0 0 Q (F0 m 236 ls [.int (nI (if (cR tl tb k) = 45 then k + 1 else k))]) := ?_
                · skip
                  refine zc_ne hx hb (cR tl tb k) 45 (by omega) (by omega) (by omega) (by omega) d_Mo_next_220 (tgt := 232) (by decide) (fun h6 => ?_) (fun h6 => ?_)
                  · skip
                    refine lv_aload_n hx hb d_Mo_next_232 rfl (lv_at hl 0 rfl) ?_
                    refine mo_geti hC hK hM 10 wf_Mo_124 rfl rfl (by decide) (v := nI k) (rfl) d_Mo_next_233 ?_
                    refine topi_eq (show (nI k : Int32) = nI (if (cR tl tb k) = 45 then k + 1 else k) by first | rfl | exact (bI_t (by assumption)).symm | exact (bI_f (by assumption)).symm | exact (bI_f (fun z => z (by assumption))).symm | (rw [if_neg h6]; done) | (rw [if_neg h6]; rfl) | (simp only [if_neg h6]; done) | (simp only [if_neg h6]; rfl)) ?_
                    exact hJ5 _ _ _ (by first | exact hM | (simp only [if_neg h6]; exact hM)) (by first | exact lv_sub hl [0, 1] rfl | (simp only [if_neg h6]; exact lv_sub hl [0, 1] rfl))
                  · skip
                    refine lv_aload_n hx hb d_Mo_next_223 rfl (lv_at hl 0 rfl) ?_
                    refine mo_geti hC hK hM 10 wf_Mo_124 rfl rfl (by decide) (v := nI k) (rfl) d_Mo_next_224 ?_
                    refine lv_iconst (v := 1) hx hb d_Mo_next_227 (by decide) ?_
                    refine lv_iadd hx hb d_Mo_next_228 ?_
                    refine topi_eq (nI_add k 1) ?_
                    refine lv_goto (tgt := 236) hx hb d_Mo_next_229 (by decide) ?_
                    refine topi_eq (show (nI (k + 1) : Int32) = nI (if (cR tl tb k) = 45 then k + 1 else k) by first | rfl | exact (bI_t (by assumption)).symm | exact (bI_f (by assumption)).symm | exact (bI_f (fun z => z (by assumption))).symm | (rw [if_pos h6]; done) | (rw [if_pos h6]; rfl) | (simp only [if_pos h6]; done) | (simp only [if_pos h6]; rfl)) ?_
                    exact hJ5 _ _ _ (by first | exact hM | (simp only [if_pos h6]; exact hM)) (by first | exact lv_sub hl [0, 1] rfl | (simp only [if_pos h6]; exact lv_sub hl [0, 1] rfl))
                intro H locs ls hM hl
                refine lv_istore_n (lv' := [(2, .int (nI (if (cR tl tb k) = 45 then k + 1 else k))), (0, .ref (ad 46)), (1, .int (iI (cR tl tb k)))]) hx hb d_Mo_next_236 rfl hl (by decide) rfl (fun ls hl => ?_)
                rw [show (if cR tl tb k = 45 then k + 1 else k) = fgB tl tb k from fgB_r] at hl
                have hfb : k ≤ fgB tl tb k ∧ fgB tl tb k ≤ k + 1 := by unfold fgB; split <;> omega
                refine lv_aload_n hx hb d_Mo_next_237 rfl (lv_at hl 1 rfl) ?_
                refine lv_iload_n hx hb d_Mo_next_238 rfl (lv_at hl 0 rfl) ?_
                refine mo_puti hC hK hM 10 wf_Mo_124 rfl rfl (by decide) rfl (by decide +kernel) (x := nI (fgB tl tb k)) d_Mo_next_239 (fun H locs hM => ?_)
                rw [upd_swap (i := 11) (j := 10) (by decide), upd_upd] at hM
                refine lv_aload_n hx hb d_Mo_next_242 rfl (lv_at hl 1 rfl) ?_
                refine lv_iconst (v := 0) hx hb d_Mo_next_243 (by decide) ?_
                refine mo_puti hC hK hM 13 wf_Mo_142 rfl rfl (by decide) rfl (by decide +kernel) (x := 0) d_Mo_next_244 (fun H locs hM => ?_)
                have hL247 : ∀ (nn : Nat) (n : Nat) (H : Heap) (locs : List Loc) (ls : Array Slot), 400 - n < nn → (fgB tl tb k + n ≤ tl + 1) → (fgE tl tb (fgB tl tb k) = fgE tl tb (fgB tl tb k + n)) → (∀ i, i < n → 48 ≤ ch tl tb (fgB tl tb k + i) ∧ ch tl tb (fgB tl tb k + i) ≤ 57) → MO D cT ad (upd (upd (upd I 10 (nI (fgB tl tb k + n))) 11 (nI k)) 13 (iI (nv (fun i => ch tl tb (fgB tl tb k + i)) n))) J a g s.heap H locs → lv_has ls 4 [(0, .ref (ad 46)), (1, .int (iI (cR tl tb k))), (2, .int (nI (fgB tl tb k)))] → W p l e (rmOf 1 25) s m args below meth c H locs 0 0 Q (F0 m 247 ls []) := by
                  intro nn
                  induction nn with
                  | zero =>
                    intro n H locs ls hmeas247 hn hfe hfd hM hl
                    exact absurd hmeas247 (Nat.not_lt_zero _)
                  | succ nn ih247 =>
                    intro n H locs ls hmeas247 hn hfe hfd hM hl
                    have hnv := nv_b (c := (fun i => ch tl tb (fgB tl tb k + i))) (n := n) (fun i hi => by have := hfd i hi; omega)
                    refine lv_aload_n hx hb d_Mo_next_247 rfl (lv_at hl 0 rfl) ?_
                    refine lv_aload_n hx hb d_Mo_next_248 rfl (lv_at hl 0 rfl) ?_
                    refine mo_geti hC hK hM 10 wf_Mo_124 rfl rfl (by decide) (v := nI (fgB tl tb k + n)) (rfl) d_Mo_next_249 ?_
                    refine mo_callr (np := 1) hC hK hM (c_Mo_byteAt l D cT ad (upd (upd (upd I 10 (nI (fgB tl tb k + n))) 11 (nI k)) 13 (iI (nv (fun i => ch tl tb (fgB tl tb k + i)) n))) J a g (nI (fgB tl tb k + n)) (fgB tl tb k + n) (bA_h hT.1 hT.2.1 (by omega))) rfl ⟨wl_Mo_127, wi_Mo_byteAt, ws_Mo_byteAt, wc_Mo_byteAt, wn_Mo⟩ ⟨by decide, by decide, by decide +kernel⟩ ⟨Nat.le_of_ble_eq_true rfl, Nat.le_of_ble_eq_true rfl⟩ hl.1 rfl (rest := []) rfl (Nat.le_of_ble_eq_true rfl) ⟨Nat.zero_le _, Nat.zero_le _⟩ d_Mo_next_252 (fun rr hrr => ?_)
                    replace hrr : rr = iI (cR tl tb (fgB tl tb k + n)) := hrr.trans (bA_v (k := fgB tl tb k + n) hT.1 hT.2.1 (by omega) (fun j hj => (hT.2.2 j hj).1))
                    subst hrr
                    have hcb_fgBtltbkn := cR_b htb (fgB tl tb k + n)
                    refine lv_i2l (v := iL (cR tl tb (fgB tl tb k + n))) hx hb d_Mo_next_255 (iI_l (z := cR tl tb (fgB tl tb k + n)) (by omega) (by omega)) ?_
                    refine lv_ldc2 (v := 48) hx hb hC.2.2.2.1 (hC.2.2.2.2 _ wx_Mo_149) d_Mo_next_256 ?_
                    refine lv_ldc2 (v := 57) hx hb hC.2.2.2.1 (hC.2.2.2.2 _ wx_Mo_151) d_Mo_next_259 ?_
                    refine st_calli (np := 3) hC (c_Mo_in l (iL (cR tl tb (fgB tl tb k + n))) 48 57 (cR tl tb (fgB tl tb k + n)) 48 57 (iL_toInt (by omega) (by omega)) rfl rfl) ⟨wl_Mo_91, wt_Mo_in, wc_Mo_in, wn_Mo⟩ ⟨by decide, by decide, by decide +kernel⟩ ⟨Nat.le_of_ble_eq_true rfl, Nat.le_of_ble_eq_true rfl⟩ hl.1 rfl (rest := []) rfl (Nat.le_of_ble_eq_true rfl) ⟨Nat.zero_le _, Nat.zero_le _⟩ d_Mo_next_262 (fun rr hrr => ?_)
                    subst hrr
                    refine bz_eq (tgt := 321) hx hb d_Mo_next_265 (by decide) (fun h7 => ?_) (fun h7 => ?_)
                    · skip
                      refine lv_aload_n hx hb d_Mo_next_321 rfl (lv_at hl 0 rfl) ?_
                      refine lv_iconst (v := 2) hx hb d_Mo_next_322 (by decide) ?_
                      refine mo_puti hC hK hM 12 wf_Mo_131 rfl rfl (by decide) rfl (by decide +kernel) (x := 2) d_Mo_next_323 (fun H locs hM => ?_)
                      refine lv_aload_n hx hb d_Mo_next_326 rfl (lv_at hl 0 rfl) ?_
                      refine mo_geti hC hK hM 10 wf_Mo_124 rfl rfl (by decide) (v := nI (fgB tl tb k + n)) (rfl) d_Mo_next_327 ?_
                      refine lv_iload_n hx hb d_Mo_next_330 rfl (lv_at hl 2 rfl) ?_
                      refine lv_isub hx hb d_Mo_next_331 ?_
                      refine topi_eq (iI_sub (↑(fgB tl tb k + n) : Int) (↑(fgB tl tb k) : Int)) ?_
                      refine lv_i2l (v := iL ((↑(fgB tl tb k + n) : Int) - (↑(fgB tl tb k) : Int))) hx hb d_Mo_next_332 (iI_l (z := (↑(fgB tl tb k + n) : Int) - (↑(fgB tl tb k) : Int)) (by omega) (by omega)) ?_
                      refine lv_lconst (v := 1) hx hb d_Mo_next_333 (by decide) ?_
                      refine lv_ldc2 (v := 2) hx hb hC.2.2.2.1 (hC.2.2.2.2 _ wx_Mo_153) d_Mo_next_334 ?_
                      refine st_calli (np := 3) hC (c_Mo_in l (iL ((↑(fgB tl tb k + n) : Int) - (↑(fgB tl tb k) : Int))) 1 2 ((↑(fgB tl tb k + n) : Int) - (↑(fgB tl tb k) : Int)) 1 2 (iL_toInt (by omega) (by omega)) rfl rfl) ⟨wl_Mo_91, wt_Mo_in, wc_Mo_in, wn_Mo⟩ ⟨by decide, by decide, by decide +kernel⟩ ⟨Nat.le_of_ble_eq_true rfl, Nat.le_of_ble_eq_true rfl⟩ hl.1 rfl (rest := []) rfl (Nat.le_of_ble_eq_true rfl) ⟨Nat.zero_le _, Nat.zero_le _⟩ d_Mo_next_337 (fun rr hrr => ?_)
                      subst hrr
                      refine bz_ne (tgt := 348) hx hb d_Mo_next_340 (by decide) (fun h8 => ?_) (fun h8 => ?_)
                      · skip
                        refine lv_aload_n hx hb d_Mo_next_348 rfl (lv_at hl 0 rfl) ?_
                        refine lv_iload_n hx hb d_Mo_next_349 rfl (lv_at hl 1 rfl) ?_
                        refine lv_bipush (v := 45) hx hb d_Mo_next_350 (by decide) ?_
                        have hJ9 : ∀ (H : Heap) (locs : List Loc) (ls : Array Slot), MO D cT ad (upd (upd (upd (upd I 10 (nI (fgB tl tb k + n))) 11 (nI k)) 13 (iI (nv (fun i => ch tl tb (fgB tl tb k + i)) n))) 12 2) J a g s.heap H locs → lv_has ls 4 [(0, .ref (ad 46)), (1, .int (iI (cR tl tb k))), (2, .int (nI (fgB tl tb k)))] → W p l e (rmOf 1 25) s m args below meth c H locs 0 0 Q (F0 m 367 ls [.int (iI (if (cR tl tb k) = 45 then -(nv (fun i => ch tl tb (fgB tl tb k + i)) n) else nv (fun i => ch tl tb (fgB tl tb k + i)) n)), .ref (ad 46)]) := ?_
                        · skip
                          refine zc_ne hx hb (cR tl tb k) 45 (by omega) (by omega) (by omega) (by omega) d_Mo_next_352 (tgt := 363) (by decide) (fun h10 => ?_) (fun h10 => ?_)
                          · skip
                            refine lv_aload_n hx hb d_Mo_next_363 rfl (lv_at hl 0 rfl) ?_
                            refine mo_geti hC hK hM 13 wf_Mo_142 rfl rfl (by decide) (v := iI (nv (fun i => ch tl tb (fgB tl tb k + i)) n)) (rfl) d_Mo_next_364 ?_
                            refine topi_eq (show (iI (nv (fun i => ch tl tb (fgB tl tb k + i)) n) : Int32) = iI (if (cR tl tb k) = 45 then -(nv (fun i => ch tl tb (fgB tl tb k + i)) n) else nv (fun i => ch tl tb (fgB tl tb k + i)) n) by first | rfl | exact (bI_t (by assumption)).symm | exact (bI_f (by assumption)).symm | exact (bI_f (fun z => z (by assumption))).symm | (rw [if_neg h10]; done) | (rw [if_neg h10]; rfl) | (simp only [if_neg h10]; done) | (simp only [if_neg h10]; rfl)) ?_
                            exact hJ9 _ _ _ (by first | exact hM | (simp only [if_neg h10]; exact hM)) (by first | exact lv_sub hl [0, 1, 2] rfl | (simp only [if_neg h10]; exact lv_sub hl [0, 1, 2] rfl))
                          · skip
                            refine lv_aload_n hx hb d_Mo_next_355 rfl (lv_at hl 0 rfl) ?_
                            refine mo_geti hC hK hM 13 wf_Mo_142 rfl rfl (by decide) (v := iI (nv (fun i => ch tl tb (fgB tl tb k + i)) n)) (rfl) d_Mo_next_356 ?_
                            refine lv_ineg hx hb d_Mo_next_359 ?_
                            refine topi_eq (iI_neg (nv (fun i => ch tl tb (fgB tl tb k + i)) n)) ?_
                            refine lv_goto (tgt := 367) hx hb d_Mo_next_360 (by decide) ?_
                            refine topi_eq (show (iI (-(nv (fun i => ch tl tb (fgB tl tb k + i)) n)) : Int32) = iI (if (cR tl tb k) = 45 then -(nv (fun i => ch tl tb (fgB tl tb k + i)) n) else nv (fun i => ch tl tb (fgB tl tb k + i)) n) by first | rfl | exact (bI_t (by assumption)).symm | exact (bI_f (by assumption)).symm | exact (bI_f (fun z => z (by assumption))).symm | (rw [if_pos h10]; done) | (rw [if_pos h10]; rfl) | (simp only [if_pos h10]; done) | (simp only [if_pos h10]; rfl)) ?_
                            exact hJ9 _ _ _ (by first | exact hM | (simp only [if_pos h10]; exact hM)) (by first | exact lv_sub hl [0, 1, 2] rfl | (simp only [if_pos h10]; exact lv_sub hl [0, 1, 2] rfl))
                        intro H locs ls hM hl
                        refine mo_puti hC hK hM 13 wf_Mo_142 rfl rfl (by decide) rfl (by decide +kernel) (x := iI (if (cR tl tb k) = 45 then -(nv (fun i => ch tl tb (fgB tl tb k + i)) n) else nv (fun i => ch tl tb (fgB tl tb k + i)) n)) d_Mo_next_367 (fun H locs hM => ?_)
                        rw [upd_swap (i := 12) (j := 13) (by decide), upd_upd] at hM
                        refine lv_goto (tgt := 378) hx hb d_Mo_next_370 (by decide) ?_
                        refine hret _ _ _ _ _ _ _ _ d_Mo_next_378 hM ?_
                        refine ⟨rfl, ?_⟩
                        rw [if_neg (by omega)]
                        refine ⟨fun q hq => by show upd _ _ _ q = _; (repeat rw [pk_un (by omega)]), ?_⟩
                        have ht1 := tk_fg (n := n) hsk (fun z => by have := (cR_end (tl := tl) (tb := tb)).mpr z; omega) hnl hfg (by rw [hfe]; exact fg_n (by assumption))
                        rw [if_pos (by omega)] at ht1
                        rw [ht1]
                        exact ⟨rfl, fun z => absurd (show (2 : Nat) = 3 from z) (by decide), fun _ => ⟨hw0, rfl, rfl, fun _ => rfl⟩⟩
                      · skip
                        refine lv_aload_n hx hb d_Mo_next_343 rfl (lv_at hl 0 rfl) ?_
                        refine lv_iconst (v := 1) hx hb d_Mo_next_344 (by decide) ?_
                        refine mo_callv (np := 1) hC hK hM (c_Mo_fails l D cT ad (upd (upd (upd (upd I 10 (nI (fgB tl tb k + n))) 11 (nI k)) 13 (iI (nv (fun i => ch tl tb (fgB tl tb k + i)) n))) 12 2) J a g 1) rfl ⟨wl_Mo_145, wi_Mo_fails, ws_Mo_fails, wc_Mo_fails, wn_Mo⟩ ⟨by decide, by decide, by decide +kernel⟩ ⟨Nat.le_of_ble_eq_true rfl, Nat.le_of_ble_eq_true rfl⟩ hl.1 rfl (rest := []) rfl (Nat.le_of_ble_eq_true rfl) ⟨Nat.zero_le _, Nat.zero_le _⟩ d_Mo_next_345 (fun I11 J11 a11 g11 H locs hp11 hM => ?_)
                        cases hp11
                        rw [if_pos (show (upd (upd (upd (upd I 10 (nI (fgB tl tb k + n))) 11 (nI k)) 13 (iI (nv (fun i => ch tl tb (fgB tl tb k + i)) n))) 12 2) 8 = 0 from hw0)] at hM
                        refine lv_aload_n hx hb d_Mo_next_348 rfl (lv_at hl 0 rfl) ?_
                        refine lv_iload_n hx hb d_Mo_next_349 rfl (lv_at hl 1 rfl) ?_
                        refine lv_bipush (v := 45) hx hb d_Mo_next_350 (by decide) ?_
                        have hJ12 : ∀ (H : Heap) (locs : List Loc) (ls : Array Slot), MO D cT ad (upd (upd (upd (upd (upd (upd I 10 (nI (fgB tl tb k + n))) 11 (nI k)) 13 (iI (nv (fun i => ch tl tb (fgB tl tb k + i)) n))) 12 2) 8 1) 9 (nI k)) J a g s.heap H locs → lv_has ls 4 [(0, .ref (ad 46)), (1, .int (iI (cR tl tb k))), (2, .int (nI (fgB tl tb k)))] → W p l e (rmOf 1 25) s m args below meth c H locs 0 0 Q (F0 m 367 ls [.int (iI (if (cR tl tb k) = 45 then -(nv (fun i => ch tl tb (fgB tl tb k + i)) n) else nv (fun i => ch tl tb (fgB tl tb k + i)) n)), .ref (ad 46)]) := ?_
                        · skip
                          refine zc_ne hx hb (cR tl tb k) 45 (by omega) (by omega) (by omega) (by omega) d_Mo_next_352 (tgt := 363) (by decide) (fun h13 => ?_) (fun h13 => ?_)
                          · skip
                            refine lv_aload_n hx hb d_Mo_next_363 rfl (lv_at hl 0 rfl) ?_
                            refine mo_geti hC hK hM 13 wf_Mo_142 rfl rfl (by decide) (v := iI (nv (fun i => ch tl tb (fgB tl tb k + i)) n)) (rfl) d_Mo_next_364 ?_
                            refine topi_eq (show (iI (nv (fun i => ch tl tb (fgB tl tb k + i)) n) : Int32) = iI (if (cR tl tb k) = 45 then -(nv (fun i => ch tl tb (fgB tl tb k + i)) n) else nv (fun i => ch tl tb (fgB tl tb k + i)) n) by first | rfl | exact (bI_t (by assumption)).symm | exact (bI_f (by assumption)).symm | exact (bI_f (fun z => z (by assumption))).symm | (rw [if_neg h13]; done) | (rw [if_neg h13]; rfl) | (simp only [if_neg h13]; done) | (simp only [if_neg h13]; rfl)) ?_
                            exact hJ12 _ _ _ (by first | exact hM | (simp only [if_neg h13]; exact hM)) (by first | exact lv_sub hl [0, 1, 2] rfl | (simp only [if_neg h13]; exact lv_sub hl [0, 1, 2] rfl))
                          · skip
                            refine lv_aload_n hx hb d_Mo_next_355 rfl (lv_at hl 0 rfl) ?_
                            refine mo_geti hC hK hM 13 wf_Mo_142 rfl rfl (by decide) (v := iI (nv (fun i => ch tl tb (fgB tl tb k + i)) n)) (rfl) d_Mo_next_356 ?_
                            refine lv_ineg hx hb d_Mo_next_359 ?_
                            refine topi_eq (iI_neg (nv (fun i => ch tl tb (fgB tl tb k + i)) n)) ?_
                            refine lv_goto (tgt := 367) hx hb d_Mo_next_360 (by decide) ?_
                            refine topi_eq (show (iI (-(nv (fun i => ch tl tb (fgB tl tb k + i)) n)) : Int32) = iI (if (cR tl tb k) = 45 then -(nv (fun i => ch tl tb (fgB tl tb k + i)) n) else nv (fun i => ch tl tb (fgB tl tb k + i)) n) by first | rfl | exact (bI_t (by assumption)).symm | exact (bI_f (by assumption)).symm | exact (bI_f (fun z => z (by assumption))).symm | (rw [if_pos h13]; done) | (rw [if_pos h13]; rfl) | (simp only [if_pos h13]; done) | (simp only [if_pos h13]; rfl)) ?_
                            exact hJ12 _ _ _ (by first | exact hM | (simp only [if_pos h13]; exact hM)) (by first | exact lv_sub hl [0, 1, 2] rfl | (simp only [if_pos h13]; exact lv_sub hl [0, 1, 2] rfl))
                        intro H locs ls hM hl
                        refine mo_puti hC hK hM 13 wf_Mo_142 rfl rfl (by decide) rfl (by decide +kernel) (x := iI (if (cR tl tb k) = 45 then -(nv (fun i => ch tl tb (fgB tl tb k + i)) n) else nv (fun i => ch tl tb (fgB tl tb k + i)) n)) d_Mo_next_367 (fun H locs hM => ?_)
                        rw [upd_swap (i := 9) (j := 13) (by decide), upd_swap (i := 8) (j := 13) (by decide), upd_swap (i := 12) (j := 13) (by decide), upd_upd] at hM
                        refine lv_goto (tgt := 378) hx hb d_Mo_next_370 (by decide) ?_
                        refine hret _ _ _ _ _ _ _ _ d_Mo_next_378 hM ?_
                        refine ⟨rfl, ?_⟩
                        rw [if_neg (by omega)]
                        refine ⟨fun q hq => by show upd _ _ _ q = _; (repeat rw [pk_un (by omega)]), ?_⟩
                        have ht1 := tk_fg (n := n) hsk (fun z => by have := (cR_end (tl := tl) (tb := tb)).mpr z; omega) hnl hfg (by rw [hfe]; exact fg_n (by assumption))
                        rw [if_neg (by omega)] at ht1
                        rw [ht1]
                        exact ⟨rfl, fun _ => ⟨rfl, rfl⟩, fun z => absurd rfl z⟩
                    · skip
                      refine lv_aload_n hx hb d_Mo_next_268 rfl (lv_at hl 0 rfl) ?_
                      refine lv_aload_n hx hb d_Mo_next_269 rfl (lv_at hl 0 rfl) ?_
                      refine mo_geti hC hK hM 10 wf_Mo_124 rfl rfl (by decide) (v := nI (fgB tl tb k + n)) (rfl) d_Mo_next_270 ?_
                      refine lv_iload_n hx hb d_Mo_next_273 rfl (lv_at hl 2 rfl) ?_
                      refine lv_isub hx hb d_Mo_next_274 ?_
                      refine topi_eq (iI_sub (↑(fgB tl tb k + n) : Int) (↑(fgB tl tb k) : Int)) ?_
                      refine lv_iconst (v := 2) hx hb d_Mo_next_275 (by decide) ?_
                      refine zc_ge hx hb ((↑(fgB tl tb k + n) : Int) - (↑(fgB tl tb k) : Int)) 2 (by omega) (by omega) (by omega) (by omega) d_Mo_next_276 (tgt := 301) (by decide) (fun h14 => ?_) (fun h14 => ?_)
                      · skip
                        refine lv_aload_n hx hb d_Mo_next_301 rfl (lv_at hl 0 rfl) ?_
                        refine mo_geti hC hK hM 13 wf_Mo_142 rfl rfl (by decide) (v := iI (nv (fun i => ch tl tb (fgB tl tb k + i)) n)) (rfl) d_Mo_next_302 ?_
                        refine topi_eq (congrArg iI (nv_k (c := (fun i => ch tl tb (fgB tl tb k + i))) (n := n) (by omega))) ?_
                        refine mo_puti hC hK hM 13 wf_Mo_142 rfl rfl (by decide) rfl (by decide +kernel) (x := iI (nv (fun i => ch tl tb (fgB tl tb k + i)) (n + 1))) d_Mo_next_305 (fun H locs hM => ?_)
                        rw [upd_upd] at hM
                        refine lv_aload_n hx hb d_Mo_next_308 rfl (lv_at hl 0 rfl) ?_
                        refine lv_dup hx hb d_Mo_next_309 rfl ?_
                        refine mo_geti hC hK hM 10 wf_Mo_124 rfl rfl (by decide) (v := nI (fgB tl tb k + n)) (rfl) d_Mo_next_310 ?_
                        refine lv_iconst (v := 1) hx hb d_Mo_next_313 (by decide) ?_
                        refine lv_iadd hx hb d_Mo_next_314 ?_
                        refine topi_eq (nI_add (fgB tl tb k + n) 1) ?_
                        refine mo_puti hC hK hM 10 wf_Mo_124 rfl rfl (by decide) rfl (by decide +kernel) (x := nI ((fgB tl tb k + n) + 1)) d_Mo_next_315 (fun H locs hM => ?_)
                        rw [upd_swap (i := 13) (j := 10) (by decide), upd_swap (i := 11) (j := 10) (by decide), upd_upd] at hM
                        refine lv_goto (tgt := 247) hx hb d_Mo_next_318 (by decide) ?_
                        have hk1 := cR_tl (tl := tl) (tb := tb) (k := fgB tl tb k + n) (by omega)
                        exact ih247 (n + 1) _ _ _ (by omega) (by omega) (by rw [hfe, fg_y h7 (by omega)]; rfl) (fun i hi => by by_cases e : i = n; (rw [e]; have := cR_in (tl := tl) (tb := tb) (k := fgB tl tb k + n) (by omega); omega); exact hfd i (by omega)) (hM) (lv_sub hl [0, 1, 2] rfl)
                      · skip
                        refine lv_bipush (v := 10) hx hb d_Mo_next_279 (by decide) ?_
                        refine lv_aload_n hx hb d_Mo_next_281 rfl (lv_at hl 0 rfl) ?_
                        refine mo_geti hC hK hM 13 wf_Mo_142 rfl rfl (by decide) (v := iI (nv (fun i => ch tl tb (fgB tl tb k + i)) n)) (rfl) d_Mo_next_282 ?_
                        refine lv_imul hx hb d_Mo_next_285 ?_
                        refine topi_eq (iI_mul 10 (nv (fun i => ch tl tb (fgB tl tb k + i)) n)) ?_
                        refine lv_aload_n hx hb d_Mo_next_286 rfl (lv_at hl 0 rfl) ?_
                        refine lv_aload_n hx hb d_Mo_next_287 rfl (lv_at hl 0 rfl) ?_
                        refine mo_geti hC hK hM 10 wf_Mo_124 rfl rfl (by decide) (v := nI (fgB tl tb k + n)) (rfl) d_Mo_next_288 ?_
                        refine mo_callr (np := 1) hC hK hM (c_Mo_byteAt l D cT ad (upd (upd (upd I 10 (nI (fgB tl tb k + n))) 11 (nI k)) 13 (iI (nv (fun i => ch tl tb (fgB tl tb k + i)) n))) J a g (nI (fgB tl tb k + n)) (fgB tl tb k + n) (bA_h hT.1 hT.2.1 (by omega))) rfl ⟨wl_Mo_127, wi_Mo_byteAt, ws_Mo_byteAt, wc_Mo_byteAt, wn_Mo⟩ ⟨by decide, by decide, by decide +kernel⟩ ⟨Nat.le_of_ble_eq_true rfl, Nat.le_of_ble_eq_true rfl⟩ hl.1 rfl (rest := [.int (iI (10 * (nv (fun i => ch tl tb (fgB tl tb k + i)) n))), .ref (ad 46)]) rfl (Nat.le_of_ble_eq_true rfl) ⟨Nat.zero_le _, Nat.zero_le _⟩ d_Mo_next_291 (fun rr hrr => ?_)
                        replace hrr : rr = iI (cR tl tb (fgB tl tb k + n)) := hrr.trans (bA_v (k := fgB tl tb k + n) hT.1 hT.2.1 (by omega) (fun j hj => (hT.2.2 j hj).1))
                        subst hrr
                        have hcb_fgBtltbkn := cR_b htb (fgB tl tb k + n)
                        refine lv_iadd hx hb d_Mo_next_294 ?_
                        refine topi_eq (iI_add (10 * (nv (fun i => ch tl tb (fgB tl tb k + i)) n)) (cR tl tb (fgB tl tb k + n))) ?_
                        refine lv_bipush (v := 48) hx hb d_Mo_next_295 (by decide) ?_
                        refine lv_isub hx hb d_Mo_next_297 ?_
                        refine topi_eq (iI_sub ((10 * (nv (fun i => ch tl tb (fgB tl tb k + i)) n)) + (cR tl tb (fgB tl tb k + n))) 48) ?_
                        refine lv_goto (tgt := 305) hx hb d_Mo_next_298 (by decide) ?_
                        refine topi_eq (show iI (((10 * (nv (fun i => ch tl tb (fgB tl tb k + i)) n)) + (cR tl tb (fgB tl tb k + n))) - 48) = iI (nv (fun i => ch tl tb (fgB tl tb k + i)) (n + 1)) by rw [← nv_s (c := (fun i => ch tl tb (fgB tl tb k + i))) (n := n) (by omega)]; congr 1; have := cR_in (tl := tl) (tb := tb) (k := fgB tl tb k + n) (by omega); omega) ?_
                        refine mo_puti hC hK hM 13 wf_Mo_142 rfl rfl (by decide) rfl (by decide +kernel) (x := iI (nv (fun i => ch tl tb (fgB tl tb k + i)) (n + 1))) d_Mo_next_305 (fun H locs hM => ?_)
                        rw [upd_upd] at hM
                        refine lv_aload_n hx hb d_Mo_next_308 rfl (lv_at hl 0 rfl) ?_
                        refine lv_dup hx hb d_Mo_next_309 rfl ?_
                        refine mo_geti hC hK hM 10 wf_Mo_124 rfl rfl (by decide) (v := nI (fgB tl tb k + n)) (rfl) d_Mo_next_310 ?_
                        refine lv_iconst (v := 1) hx hb d_Mo_next_313 (by decide) ?_
                        refine lv_iadd hx hb d_Mo_next_314 ?_
                        refine topi_eq (nI_add (fgB tl tb k + n) 1) ?_
                        refine mo_puti hC hK hM 10 wf_Mo_124 rfl rfl (by decide) rfl (by decide +kernel) (x := nI ((fgB tl tb k + n) + 1)) d_Mo_next_315 (fun H locs hM => ?_)
                        rw [upd_swap (i := 13) (j := 10) (by decide), upd_swap (i := 11) (j := 10) (by decide), upd_upd] at hM
                        refine lv_goto (tgt := 247) hx hb d_Mo_next_318 (by decide) ?_
                        have hk1 := cR_tl (tl := tl) (tb := tb) (k := fgB tl tb k + n) (by omega)
                        exact ih247 (n + 1) _ _ _ (by omega) (by omega) (by rw [hfe, fg_y h7 (by omega)]; rfl) (fun i hi => by by_cases e : i = n; (rw [e]; have := cR_in (tl := tl) (tb := tb) (k := fgB tl tb k + n) (by omega); omega); exact hfd i (by omega)) (hM) (lv_sub hl [0, 1, 2] rfl)
                exact hL247 _ 0 _ _ _ (Nat.lt_succ_self _) (by omega) (rfl) (fun i hi => by omega) (hM) (lv_sub hl [1, 2, 0] rfl)
              refine lv_iload_n hx hb d_Mo_next_197 rfl (lv_at hl 0 rfl) ?_
              refine lv_i2l (v := iL (cR tl tb k)) hx hb d_Mo_next_198 (iI_l (z := cR tl tb k) (by omega) (by omega)) ?_
              refine lv_ldc2 (v := 48) hx hb hC.2.2.2.1 (hC.2.2.2.2 _ wx_Mo_149) d_Mo_next_199 ?_
              refine lv_ldc2 (v := 57) hx hb hC.2.2.2.1 (hC.2.2.2.2 _ wx_Mo_151) d_Mo_next_202 ?_
              refine st_calli (np := 3) hC (c_Mo_in l (iL (cR tl tb k)) 48 57 (cR tl tb k) 48 57 (iL_toInt (by omega) (by omega)) rfl rfl) ⟨wl_Mo_91, wt_Mo_in, wc_Mo_in, wn_Mo⟩ ⟨by decide, by decide, by decide +kernel⟩ ⟨Nat.le_of_ble_eq_true rfl, Nat.le_of_ble_eq_true rfl⟩ hl.1 rfl (rest := []) rfl (Nat.le_of_ble_eq_true rfl) ⟨Nat.zero_le _, Nat.zero_le _⟩ d_Mo_next_205 (fun rr hrr => ?_)
              subst hrr
              refine bz_ne (tgt := 217) hx hb d_Mo_next_208 (by decide) (fun h15 => ?_) (fun h15 => ?_)
              · skip
                exact hL217 _ _ _ (fun z => by have := (cR_lt (tl := tl) (tb := tb)).mpr z; omega) (by first | exact Or.inl (cR_fg.mp (by assumption)) | exact Or.inr ((cR_c (c := 45) (by decide)).mp (by omega))) (hM) (lv_sub hl [1, 0] rfl)
              · skip
                refine lv_iload_n hx hb d_Mo_next_211 rfl (lv_at hl 0 rfl) ?_
                refine lv_bipush (v := 45) hx hb d_Mo_next_212 (by decide) ?_
                refine zc_ne hx hb (cR tl tb k) 45 (by omega) (by omega) (by omega) (by omega) d_Mo_next_214 (tgt := 373) (by decide) (fun h16 => ?_) (fun h16 => ?_)
                · skip
                  refine lv_aload_n hx hb d_Mo_next_373 rfl (lv_at hl 1 rfl) ?_
                  refine lv_iconst (v := 1) hx hb d_Mo_next_374 (by decide) ?_
                  refine mo_callv (np := 1) hC hK hM (c_Mo_fails l D cT ad (upd (upd I 10 (nI k)) 11 (nI k)) J a g 1) rfl ⟨wl_Mo_145, wi_Mo_fails, ws_Mo_fails, wc_Mo_fails, wn_Mo⟩ ⟨by decide, by decide, by decide +kernel⟩ ⟨Nat.le_of_ble_eq_true rfl, Nat.le_of_ble_eq_true rfl⟩ hl.1 rfl (rest := []) rfl (Nat.le_of_ble_eq_true rfl) ⟨Nat.zero_le _, Nat.zero_le _⟩ d_Mo_next_375 (fun I17 J17 a17 g17 H locs hp17 hM => ?_)
                  cases hp17
                  rw [if_pos (show (upd (upd I 10 (nI k)) 11 (nI k)) 8 = 0 from hw0)] at hM
                  refine hret _ _ _ _ _ _ _ _ d_Mo_next_378 hM ?_
                  refine ⟨rfl, ?_⟩
                  rw [if_neg (by omega)]
                  refine ⟨fun q hq => by show upd _ _ _ q = _; (repeat rw [pk_un (by omega)]), ?_⟩
                  rw [tk_no hsk (fun z => by have := (cR_end (tl := tl) (tb := tb)).mpr z; omega) (fun z => by have := (cR_lt (tl := tl) (tb := tb)).mpr z; omega) (by rintro (z | z); (have := (cR_fg (tl := tl) (tb := tb)).mpr z; omega); (have := (cR_c (tl := tl) (tb := tb) (k := k) (c := 45) (by decide)).mpr z; omega))]
                  exact ⟨rfl, fun _ => ⟨rfl, rfl⟩, fun z => absurd rfl z⟩
                · skip
                  exact hL217 _ _ _ (fun z => by have := (cR_lt (tl := tl) (tb := tb)).mpr z; omega) (by first | exact Or.inl (cR_fg.mp (by assumption)) | exact Or.inr ((cR_c (c := 45) (by decide)).mp (by omega))) (hM) (lv_sub hl [1, 0] rfl)
            · skip
              have hc0 := h4
              refine lv_lconst (v := 0) hx hb d_Mo_next_79 (by decide) ?_
              refine lv_lstore_n (lv' := [(2, .long 0), (1, .int (iI (cR tl tb k))), (0, .ref (ad 46))]) hx hb d_Mo_next_80 rfl hl (by decide) rfl (fun ls hl => ?_)
              have hL81 : ∀ (nn : Nat) (n : Nat) (H : Heap) (locs : List Loc) (ls : Array Slot), 400 - n < nn → (k + n ≤ tl) → (ltE tl tb k = ltE tl tb (k + n)) → (∀ i, i < n → 97 ≤ ch tl tb (k + i) ∧ ch tl tb (k + i) ≤ 122) → MO D cT ad (upd (upd I 10 (nI (k + n))) 11 (nI k)) J a g s.heap H locs → lv_has ls 4 [(0, .ref (ad 46)), (2, .long (iL (nmN (fun i => ch tl tb (k + i)) n : Int)))] → W p l e (rmOf 1 25) s m args below meth c H locs 0 0 Q (F0 m 81 ls []) := by
                intro nn
                induction nn with
                | zero =>
                  intro n H locs ls hmeas81 hn hlt hle hM hl
                  exact absurd hmeas81 (Nat.not_lt_zero _)
                | succ nn ih81 =>
                  intro n H locs ls hmeas81 hn hlt hle hM hl
                  refine lv_aload_n hx hb d_Mo_next_81 rfl (lv_at hl 0 rfl) ?_
                  refine lv_aload_n hx hb d_Mo_next_82 rfl (lv_at hl 0 rfl) ?_
                  refine mo_geti hC hK hM 10 wf_Mo_124 rfl rfl (by decide) (v := nI (k + n)) (rfl) d_Mo_next_83 ?_
                  refine mo_callr (np := 1) hC hK hM (c_Mo_byteAt l D cT ad (upd (upd I 10 (nI (k + n))) 11 (nI k)) J a g (nI (k + n)) (k + n) (bA_h hT.1 hT.2.1 (by omega))) rfl ⟨wl_Mo_127, wi_Mo_byteAt, ws_Mo_byteAt, wc_Mo_byteAt, wn_Mo⟩ ⟨by decide, by decide, by decide +kernel⟩ ⟨Nat.le_of_ble_eq_true rfl, Nat.le_of_ble_eq_true rfl⟩ hl.1 rfl (rest := []) rfl (Nat.le_of_ble_eq_true rfl) ⟨Nat.zero_le _, Nat.zero_le _⟩ d_Mo_next_86 (fun rr hrr => ?_)
                  replace hrr : rr = iI (cR tl tb (k + n)) := hrr.trans (bA_v (k := k + n) hT.1 hT.2.1 (by omega) (fun j hj => (hT.2.2 j hj).1))
                  subst hrr
                  have hcb_kn := cR_b htb (k + n)
                  refine lv_i2l (v := iL (cR tl tb (k + n))) hx hb d_Mo_next_89 (iI_l (z := cR tl tb (k + n)) (by omega) (by omega)) ?_
                  refine lv_ldc2 (v := 97) hx hb hC.2.2.2.1 (hC.2.2.2.2 _ wx_Mo_134) d_Mo_next_90 ?_
                  refine lv_ldc2 (v := 122) hx hb hC.2.2.2.1 (hC.2.2.2.2 _ wx_Mo_136) d_Mo_next_93 ?_
                  refine st_calli (np := 3) hC (c_Mo_in l (iL (cR tl tb (k + n))) 97 122 (cR tl tb (k + n)) 97 122 (iL_toInt (by omega) (by omega)) rfl rfl) ⟨wl_Mo_91, wt_Mo_in, wc_Mo_in, wn_Mo⟩ ⟨by decide, by decide, by decide +kernel⟩ ⟨Nat.le_of_ble_eq_true rfl, Nat.le_of_ble_eq_true rfl⟩ hl.1 rfl (rest := []) rfl (Nat.le_of_ble_eq_true rfl) ⟨Nat.zero_le _, Nat.zero_le _⟩ d_Mo_next_96 (fun rr hrr => ?_)
                  subst hrr
                  refine bz_eq (tgt := 148) hx hb d_Mo_next_99 (by decide) (fun h18 => ?_) (fun h18 => ?_)
                  · skip
                    refine lv_aload_n hx hb d_Mo_next_148 rfl (lv_at hl 0 rfl) ?_
                    refine lv_iconst (v := 1) hx hb d_Mo_next_149 (by decide) ?_
                    refine mo_puti hC hK hM 12 wf_Mo_131 rfl rfl (by decide) rfl (by decide +kernel) (x := 1) d_Mo_next_150 (fun H locs hM => ?_)
                    refine lv_aload_n hx hb d_Mo_next_153 rfl (lv_at hl 0 rfl) ?_
                    refine lv_aload_n hx hb d_Mo_next_154 rfl (lv_at hl 0 rfl) ?_
                    refine mo_geti hC hK hM 10 wf_Mo_124 rfl rfl (by decide) (v := nI (k + n)) (rfl) d_Mo_next_155 ?_
                    refine lv_aload_n hx hb d_Mo_next_158 rfl (lv_at hl 0 rfl) ?_
                    refine mo_geti hC hK hM 11 wf_Mo_98 rfl rfl (by decide) (v := nI k) (rfl) d_Mo_next_159 ?_
                    refine lv_isub hx hb d_Mo_next_162 ?_
                    refine topi_eq (iI_sub (↑(k + n) : Int) (↑k : Int)) ?_
                    refine lv_bipush (v := 6) hx hb d_Mo_next_163 (by decide) ?_
                    have hJ19 : ∀ (H : Heap) (locs : List Loc) (ls : Array Slot), MO D cT ad (upd (upd (upd I 10 (nI (k + n))) 11 (nI k)) 12 1) J a g s.heap H locs → lv_has ls 4 [(0, .ref (ad 46)), (2, .long (iL (nmN (fun i => ch tl tb (k + i)) n : Int)))] → W p l e (rmOf 1 25) s m args below meth c H locs 0 0 Q (F0 m 177 ls [.int (iI (if 6 < ((↑(k + n) : Int) - (↑k : Int)) then (-4) else nmZ (fun i => ch tl tb (k + i)) n)), .ref (ad 46)]) := ?_
                    · skip
                      refine zc_le hx hb ((↑(k + n) : Int) - (↑k : Int)) 6 (by omega) (by omega) (by omega) (by omega) d_Mo_next_165 (tgt := 173) (by decide) (fun h20 => ?_) (fun h20 => ?_)
                      · skip
                        refine lv_lload_n hx hb d_Mo_next_173 rfl (lv_at hl 1 rfl) ?_
                        refine st_calli (np := 1) hC (c_Mo_ruleOf l (iL (nmN (fun i => ch tl tb (k + i)) n : Int))) ⟨wl_Mo_138, wt_Mo_ruleOf, wc_Mo_ruleOf, wn_Mo⟩ ⟨by decide, by decide, by decide +kernel⟩ ⟨Nat.le_of_ble_eq_true rfl, Nat.le_of_ble_eq_true rfl⟩ hl.1 rfl (rest := [.ref (ad 46)]) rfl (Nat.le_of_ble_eq_true rfl) ⟨Nat.zero_le _, Nat.zero_le _⟩ d_Mo_next_174 (fun rr hrr => ?_)
                        replace hrr : rr = iI (nmZ (fun i => ch tl tb (k + i)) n) := hrr.trans (nm_eq (by omega) hle)
                        subst hrr
                        refine topi_eq (show (iI (nmZ (fun i => ch tl tb (k + i)) n) : Int32) = iI (if 6 < ((↑(k + n) : Int) - (↑k : Int)) then (-4) else nmZ (fun i => ch tl tb (k + i)) n) by first | rfl | exact (bI_t (by assumption)).symm | exact (bI_f (by assumption)).symm | exact (bI_f (fun z => z (by assumption))).symm | (rw [if_neg h20]; done) | (rw [if_neg h20]; rfl) | (simp only [if_neg h20]; done) | (simp only [if_neg h20]; rfl)) ?_
                        exact hJ19 _ _ _ (by first | exact hM | (simp only [if_neg h20]; exact hM)) (by first | exact lv_sub hl [0, 1] rfl | (simp only [if_neg h20]; exact lv_sub hl [0, 1] rfl))
                      · skip
                        refine lv_bipush (v := (-4)) hx hb d_Mo_next_168 (by decide) ?_
                        refine lv_goto (tgt := 177) hx hb d_Mo_next_170 (by decide) ?_
                        refine topi_eq (show ((-4) : Int32) = iI (if 6 < ((↑(k + n) : Int) - (↑k : Int)) then (-4) else nmZ (fun i => ch tl tb (k + i)) n) by first | rfl | exact (bI_t (by assumption)).symm | exact (bI_f (by assumption)).symm | exact (bI_f (fun z => z (by assumption))).symm | (rw [if_pos h20]; done) | (rw [if_pos h20]; rfl) | (simp only [if_pos h20]; done) | (simp only [if_pos h20]; rfl)) ?_
                        exact hJ19 _ _ _ (by first | exact hM | (simp only [if_pos h20]; exact hM)) (by first | exact lv_sub hl [0, 1] rfl | (simp only [if_pos h20]; exact lv_sub hl [0, 1] rfl))
                    intro H locs ls hM hl
                    refine topi_eq (show iI (if 6 < ((↑(k + n) : Int) - (↑k : Int)) then (-4) else nmZ (fun i => ch tl tb (k + i)) n) = iI (nmZ (fun i => ch tl tb (k + i)) n) by congr 1; split; exact (nmZ_no (by omega)).symm; rfl) ?_
                    refine mo_puti hC hK hM 13 wf_Mo_142 rfl rfl (by decide) rfl (by decide +kernel) (x := iI (nmZ (fun i => ch tl tb (k + i)) n)) d_Mo_next_177 (fun H locs hM => ?_)
                    have hnz := nmZ_b (fun i => ch tl tb (k + i)) n
                    refine lv_aload_n hx hb d_Mo_next_180 rfl (lv_at hl 0 rfl) ?_
                    refine mo_geti hC hK hM 13 wf_Mo_142 rfl rfl (by decide) (v := iI (nmZ (fun i => ch tl tb (k + i)) n)) (rfl) d_Mo_next_181 ?_
                    refine lv_bipush (v := (-4)) hx hb d_Mo_next_184 (by decide) ?_
                    refine zc_ne hx hb (nmZ (fun i => ch tl tb (k + i)) n) (-4) (by omega) (by omega) (by omega) (by omega) d_Mo_next_186 (tgt := 194) (by decide) (fun h21 => ?_) (fun h21 => ?_)
                    · skip
                      refine lv_goto (tgt := 378) hx hb d_Mo_next_194 (by decide) ?_
                      refine hret _ _ _ _ _ _ _ _ d_Mo_next_378 hM ?_
                      refine ⟨rfl, ?_⟩
                      rw [if_neg (by omega)]
                      refine ⟨fun q hq => by show upd _ _ _ q = _; (repeat rw [pk_un (by omega)]), ?_⟩
                      obtain ⟨ht1, ht2⟩ := tk_nm (n := n) hsk (fun z => by have := (cR_end (tl := tl) (tb := tb)).mpr z; omega) (cR_lt.mp hc0) (by rw [hlt]; exact lt_n (by assumption))
                      rw [ht1, if_neg (by omega)]
                      exact ⟨rfl, fun z => absurd (show (1 : Nat) = 3 from z) (by decide), fun _ => ⟨hw0, rfl, rfl, fun _ => congrArg iI (ht2 (by omega)).symm⟩⟩
                    · skip
                      refine lv_aload_n hx hb d_Mo_next_189 rfl (lv_at hl 0 rfl) ?_
                      refine lv_iconst (v := 1) hx hb d_Mo_next_190 (by decide) ?_
                      refine mo_callv (np := 1) hC hK hM (c_Mo_fails l D cT ad (upd (upd (upd (upd I 10 (nI (k + n))) 11 (nI k)) 12 1) 13 (iI (nmZ (fun i => ch tl tb (k + i)) n))) J a g 1) rfl ⟨wl_Mo_145, wi_Mo_fails, ws_Mo_fails, wc_Mo_fails, wn_Mo⟩ ⟨by decide, by decide, by decide +kernel⟩ ⟨Nat.le_of_ble_eq_true rfl, Nat.le_of_ble_eq_true rfl⟩ hl.1 rfl (rest := []) rfl (Nat.le_of_ble_eq_true rfl) ⟨Nat.zero_le _, Nat.zero_le _⟩ d_Mo_next_191 (fun I22 J22 a22 g22 H locs hp22 hM => ?_)
                      cases hp22
                      rw [if_pos (show (upd (upd (upd (upd I 10 (nI (k + n))) 11 (nI k)) 12 1) 13 (iI (nmZ (fun i => ch tl tb (k + i)) n))) 8 = 0 from hw0)] at hM
                      refine lv_goto (tgt := 378) hx hb d_Mo_next_194 (by decide) ?_
                      refine hret _ _ _ _ _ _ _ _ d_Mo_next_378 hM ?_
                      refine ⟨rfl, ?_⟩
                      rw [if_neg (by omega)]
                      refine ⟨fun q hq => by show upd _ _ _ q = _; (repeat rw [pk_un (by omega)]), ?_⟩
                      obtain ⟨ht1, ht2⟩ := tk_nm (n := n) hsk (fun z => by have := (cR_end (tl := tl) (tb := tb)).mpr z; omega) (cR_lt.mp hc0) (by rw [hlt]; exact lt_n (by assumption))
                      rw [ht1, if_pos (by omega)]
                      exact ⟨rfl, fun _ => ⟨rfl, rfl⟩, fun z => absurd rfl z⟩
                  · skip
                    refine lv_aload_n hx hb d_Mo_next_102 rfl (lv_at hl 0 rfl) ?_
                    refine mo_geti hC hK hM 10 wf_Mo_124 rfl rfl (by decide) (v := nI (k + n)) (rfl) d_Mo_next_103 ?_
                    refine lv_aload_n hx hb d_Mo_next_106 rfl (lv_at hl 0 rfl) ?_
                    refine mo_geti hC hK hM 11 wf_Mo_98 rfl rfl (by decide) (v := nI k) (rfl) d_Mo_next_107 ?_
                    refine lv_isub hx hb d_Mo_next_110 ?_
                    refine topi_eq (iI_sub (↑(k + n) : Int) (↑k : Int)) ?_
                    refine lv_bipush (v := 6) hx hb d_Mo_next_111 (by decide) ?_
                    refine zc_ge hx hb ((↑(k + n) : Int) - (↑k : Int)) 6 (by omega) (by omega) (by omega) (by omega) d_Mo_next_113 (tgt := 133) (by decide) (fun h23 => ?_) (fun h23 => ?_)
                    · skip
                      refine lv_lconst (v := 0) hx hb d_Mo_next_133 (by decide) ?_
                      refine topl_eq (nm_stop (c := (fun i => ch tl tb (k + i))) (n := n) (by omega)) ?_
                      refine lv_lstore_n (lv' := [(2, .long (iL (nmN (fun i => ch tl tb (k + i)) (n + 1) : Int))), (0, .ref (ad 46))]) hx hb d_Mo_next_134 rfl hl (by decide) rfl (fun ls hl => ?_)
                      refine lv_aload_n hx hb d_Mo_next_135 rfl (lv_at hl 1 rfl) ?_
                      refine lv_dup hx hb d_Mo_next_136 rfl ?_
                      refine mo_geti hC hK hM 10 wf_Mo_124 rfl rfl (by decide) (v := nI (k + n)) (rfl) d_Mo_next_137 ?_
                      refine lv_iconst (v := 1) hx hb d_Mo_next_140 (by decide) ?_
                      refine lv_iadd hx hb d_Mo_next_141 ?_
                      refine topi_eq (nI_add (k + n) 1) ?_
                      refine mo_puti hC hK hM 10 wf_Mo_124 rfl rfl (by decide) rfl (by decide +kernel) (x := nI ((k + n) + 1)) d_Mo_next_142 (fun H locs hM => ?_)
                      rw [upd_swap (i := 11) (j := 10) (by decide), upd_upd] at hM
                      refine lv_goto (tgt := 81) hx hb d_Mo_next_145 (by decide) ?_
                      have hk1 := cR_tl (tl := tl) (tb := tb) (k := k + n) (by omega)
                      exact ih81 (n + 1) _ _ _ (by omega) (by omega) (by rw [hlt, lt_y h18 (by omega)]; rfl) (fun i hi => by by_cases e : i = n; (rw [e]; have := cR_in (tl := tl) (tb := tb) (k := k + n) (by omega); omega); exact hle i (by omega)) (hM) (lv_sub hl [1, 0] rfl)
                    · skip
                      refine lv_lload_n hx hb d_Mo_next_116 rfl (lv_at hl 1 rfl) ?_
                      refine lv_bipush (v := 8) hx hb d_Mo_next_117 (by decide) ?_
                      refine lv_lshl hx hb d_Mo_next_119 rfl ?_
                      refine lv_aload_n hx hb d_Mo_next_120 rfl (lv_at hl 0 rfl) ?_
                      refine lv_aload_n hx hb d_Mo_next_121 rfl (lv_at hl 0 rfl) ?_
                      refine mo_geti hC hK hM 10 wf_Mo_124 rfl rfl (by decide) (v := nI (k + n)) (rfl) d_Mo_next_122 ?_
                      refine mo_callr (np := 1) hC hK hM (c_Mo_byteAt l D cT ad (upd (upd I 10 (nI (k + n))) 11 (nI k)) J a g (nI (k + n)) (k + n) (bA_h hT.1 hT.2.1 (by omega))) rfl ⟨wl_Mo_127, wi_Mo_byteAt, ws_Mo_byteAt, wc_Mo_byteAt, wn_Mo⟩ ⟨by decide, by decide, by decide +kernel⟩ ⟨Nat.le_of_ble_eq_true rfl, Nat.le_of_ble_eq_true rfl⟩ hl.1 rfl (rest := [.long ((iL (nmN (fun i => ch tl tb (k + i)) n : Int)) <<< ((8 : Int32).toInt64 &&& 63))]) rfl (Nat.le_of_ble_eq_true rfl) ⟨Nat.zero_le _, Nat.zero_le _⟩ d_Mo_next_125 (fun rr hrr => ?_)
                      replace hrr : rr = iI (cR tl tb (k + n)) := hrr.trans (bA_v (k := k + n) hT.1 hT.2.1 (by omega) (fun j hj => (hT.2.2 j hj).1))
                      subst hrr
                      have hcb_kn := cR_b htb (k + n)
                      refine lv_i2l (v := iL (cR tl tb (k + n))) hx hb d_Mo_next_128 (iI_l (z := cR tl tb (k + n)) (by omega) (by omega)) ?_
                      refine lv_lor hx hb d_Mo_next_129 ?_
                      refine lv_goto (tgt := 134) hx hb d_Mo_next_130 (by decide) ?_
                      refine topl_eq (nm_step (by omega) (by omega) hle) ?_
                      refine lv_lstore_n (lv' := [(2, .long (iL (nmN (fun i => ch tl tb (k + i)) (n + 1) : Int))), (0, .ref (ad 46))]) hx hb d_Mo_next_134 rfl hl (by decide) rfl (fun ls hl => ?_)
                      refine lv_aload_n hx hb d_Mo_next_135 rfl (lv_at hl 1 rfl) ?_
                      refine lv_dup hx hb d_Mo_next_136 rfl ?_
                      refine mo_geti hC hK hM 10 wf_Mo_124 rfl rfl (by decide) (v := nI (k + n)) (rfl) d_Mo_next_137 ?_
                      refine lv_iconst (v := 1) hx hb d_Mo_next_140 (by decide) ?_
                      refine lv_iadd hx hb d_Mo_next_141 ?_
                      refine topi_eq (nI_add (k + n) 1) ?_
                      refine mo_puti hC hK hM 10 wf_Mo_124 rfl rfl (by decide) rfl (by decide +kernel) (x := nI ((k + n) + 1)) d_Mo_next_142 (fun H locs hM => ?_)
                      rw [upd_swap (i := 11) (j := 10) (by decide), upd_upd] at hM
                      refine lv_goto (tgt := 81) hx hb d_Mo_next_145 (by decide) ?_
                      have hk1 := cR_tl (tl := tl) (tb := tb) (k := k + n) (by omega)
                      exact ih81 (n + 1) _ _ _ (by omega) (by omega) (by rw [hlt, lt_y h18 (by omega)]; rfl) (fun i hi => by by_cases e : i = n; (rw [e]; have := cR_in (tl := tl) (tb := tb) (k := k + n) (by omega); omega); exact hle i (by omega)) (hM) (lv_sub hl [1, 0] rfl)
              exact hL81 _ 0 _ _ _ (Nat.lt_succ_self _) (by omega) (rfl) (fun i hi => by omega) (hM) (lv_sub hl [2, 0] rfl)
          · skip
            refine lv_aload_n hx hb d_Mo_next_57 rfl (lv_at hl 1 rfl) ?_
            refine lv_iconst (v := 0) hx hb d_Mo_next_58 (by decide) ?_
            refine mo_puti hC hK hM 12 wf_Mo_131 rfl rfl (by decide) rfl (by decide +kernel) (x := 0) d_Mo_next_59 (fun H locs hM => ?_)
            refine lv_goto (tgt := 378) hx hb d_Mo_next_62 (by decide) ?_
            refine hret _ _ _ _ _ _ _ _ d_Mo_next_378 hM ?_
            refine ⟨rfl, ?_⟩
            rw [if_neg (by omega)]
            refine ⟨fun q hq => by show upd _ _ _ q = _; (repeat rw [pk_un (by omega)]), ?_⟩
            rw [tk_end hsk (cR_end.mp (by omega))]
            exact ⟨rfl, fun z => absurd (show (0 : Nat) = 3 from z) (by decide), fun _ => ⟨hw0, rfl, rfl, fun y => absurd (show (0 : Nat) = 1 ∨ (0 : Nat) = 2 from y) (by decide)⟩⟩
        · skip
          refine lv_aload_n hx hb d_Mo_next_21 rfl (lv_at hl 0 rfl) ?_
          refine lv_dup hx hb d_Mo_next_22 rfl ?_
          refine mo_geti hC hK hM 10 wf_Mo_124 rfl rfl (by decide) (v := nI k) (rfl) d_Mo_next_23 ?_
          refine lv_iconst (v := 1) hx hb d_Mo_next_26 (by decide) ?_
          refine lv_iadd hx hb d_Mo_next_27 ?_
          refine topi_eq (nI_add k 1) ?_
          refine mo_puti hC hK hM 10 wf_Mo_124 rfl rfl (by decide) rfl (by decide +kernel) (x := nI (k + 1)) d_Mo_next_28 (fun H locs hM => ?_)
          rw [upd_upd] at hM
          refine lv_goto (tgt := 8) hx hb d_Mo_next_31 (by decide) ?_
          have hk1 := cR_tl (tl := tl) (tb := tb) (k := k) (by omega)
          exact ih8 (k + 1) _ _ _ (by omega) (by rw [← sk_y (by omega) (by omega)]; exact hsk) (by omega) (hM) (lv_sub hl [0] rfl)
    exact hL8 _ p0 _ _ _ (Nat.lt_succ_self _) (rfl) (by have := (hp (by omega)).2; omega) (by rw [upd_same2 (hp (by omega)).1]; exact hM) (lv_sub hl [0] rfl)
  · skip
    refine hret _ _ _ _ _ _ _ _ d_Mo_next_7 hM ?_
    refine ⟨rfl, ?_⟩
    rw [if_pos (by omega)]
