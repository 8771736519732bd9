/-! pure: the tokens of a tape, the texts that they tell -/
def ch (tl : Nat) (tb : Nat → Nat) (k : Nat) : Nat := if k < tl then tb k else 999
def isLt (c : Nat) : Bool := decide (97 ≤ c ∧ c ≤ 122)
def isFg (c : Nat) : Bool := decide (48 ≤ c ∧ c ≤ 57)
def runF (f : Nat → Bool) : Nat → Nat → Nat
  | 0, k => k
  | n + 1, k => if f k = true then runF f n (k + 1) else k
/-- the first place from k on where f is false -/
def eR (f : Nat → Bool) (k : Nat) : Nat := runF f (400 - k) k
section ER
variable {f : Nat → Bool}
theorem eR_n {k : Nat} (h : f k = false) : eR f k = k := by
  unfold eR
  cases 400 - k with
  | zero => rfl
  | succ n =>
    show (if f k = true then _ else k) = k
    rw [h]
    rfl
theorem eR_y {k : Nat} (h : f k = true) (hk : k < 400) : eR f k = eR f (k + 1) := by
  unfold eR
  rw [show 400 - k = (400 - (k + 1)) + 1 by omega]
  show (if f k = true then _ else k) = _
  rw [if_pos h]
theorem runF_le : ∀ (n k : Nat), k ≤ runF f n k
  | 0, _ => Nat.le_refl _
  | n + 1, k => by
    show k ≤ (if f k = true then runF f n (k + 1) else k)
    split
    · exact Nat.le_trans (Nat.le_succ _) (runF_le n (k + 1))
    · exact Nat.le_refl _
theorem eR_le (k : Nat) : k ≤ eR f k := runF_le _ _
theorem runF_all : ∀ (n k j : Nat), k ≤ j → j < runF f n k → f j = true
  | 0, k, j, h1, h2 => by
    have : j < k := h2
    omega
  | n + 1, k, j, h1, h2 => by
    have h3 : j < (if f k = true then runF f n (k + 1) else k) := h2
    by_cases h : f k = true
    · rw [if_pos h] at h3
      by_cases e : j = k
      · rw [e]; exact h
      · exact runF_all n (k + 1) j (by omega) h3
    · rw [if_neg h] at h3
      omega
theorem eR_all {k j : Nat} (h1 : k ≤ j) (h2 : j < eR f k) : f j = true := runF_all _ _ _ h1 h2
theorem runF_b {N : Nat} (hN : ∀ j, N ≤ j → f j = false) : ∀ (n k : Nat), k ≤ N → runF f n k ≤ N
  | 0, _, h => h
  | n + 1, k, h => by
    show (if f k = true then runF f n (k + 1) else k) ≤ N
    by_cases g : f k = true
    · rw [if_pos g]
      refine runF_b hN n (k + 1) ?_
      by_cases e : k = N
      · rw [hN k (by omega)] at g; cases g
      · omega
    · rw [if_neg g]; exact h
theorem eR_b {N k : Nat} (hN : ∀ j, N ≤ j → f j = false) (h : k ≤ N) : eR f k ≤ N := runF_b hN _ _ h
theorem runF_s {N : Nat} (hN : ∀ j, N ≤ j → f j = false) : ∀ (n k : Nat), N ≤ n + k → f (runF f n k) = false
  | 0, k, h => hN k (by omega)
  | n + 1, k, h => by
    show f (if f k = true then runF f n (k + 1) else k) = false
    by_cases g : f k = true
    · rw [if_pos g]; exact runF_s hN n (k + 1) (by omega)
    · rw [if_neg g]; exact Bool.eq_false_iff.mpr g
theorem eR_s {N k : Nat} (hN : ∀ j, N ≤ j → f j = false) (h : N ≤ 400) : f (eR f k) = false := runF_s hN _ _ (by omega)
end ER
/-- names: their lengths and letters -/
def lK (k : Nat) : Nat := if k = 2 then 5 else if k = 3 then 2 else if k = 1 ∨ k = 4 ∨ k = 9 then 3 else 4
def cK (k j : Nat) : Nat :=
  if k = 0 then (if j = 0 then 98 else if j = 1 then 97 else 108) else
  if k = 1 then (if j = 0 then 98 else if j = 1 then 111 else 120) else
  if k = 2 then (if j = 0 then 112 else if j = 1 then 108 else if j = 2 then 97 else if j = 3 then 110 else 101) else
  if k = 3 then (if j = 0 then 111 else 114) else
  if k = 4 then (if j = 0 then 97 else if j = 1 then 110 else 100) else
  if k = 5 then (if j = 0 then 108 else if j = 1 then 101 else 115) else
  if k = 6 then (if j = 0 then 109 else if j = 1 then 111 else if j = 2 then 118 else 101) else
  if k = 7 then (if j = 0 then 116 else if j = 1 then 117 else if j = 2 then 114 else 110) else
  if k = 8 then (if j = 0 then 102 else if j = 1 then 108 else if j = 2 then 105 else 112) else
  (if j = 0 then 114 else if j = 1 then 101 else 112)
abbrev nmS (k : Nat) (c : Nat → Nat) (n : Nat) : Prop := n = lK k ∧ ∀ j, j < lK k → c j = cK k j
/-- the kind of a name, by the last that fits; 10: none -/
def nmK (c : Nat → Nat) (n : Nat) : Nat → Nat
  | 0 => 10
  | k + 1 => if nmS k c n then k else nmK c n k
theorem nmK_le (c : Nat → Nat) (n : Nat) : ∀ k, nmK c n k ≤ 10 ∧ (nmK c n k < 10 → nmS (nmK c n k) c n) ∨ 10 < k
  | 0 => Or.inl ⟨Nat.le_refl _, fun h => absurd h (by show ¬ 10 < 10; omega)⟩
  | k + 1 => by
    rcases nmK_le c n k with h | h
    · by_cases g : 10 < k + 1
      · exact Or.inr g
      · refine Or.inl ?_
        show (if nmS k c n then k else nmK c n k) ≤ 10 ∧ ((if nmS k c n then k else nmK c n k) < 10 → nmS (if nmS k c n then k else nmK c n k) c n)
        by_cases z : nmS k c n
        · rw [if_pos z]; exact ⟨by omega, fun _ => z⟩
        · rw [if_neg z]; exact h
    · exact Or.inr (by omega)
theorem lK_2 (k : Nat) : 2 ≤ lK k ∧ lK k ≤ 5 := by unfold lK; split <;> (try split) <;> (try split) <;> omega
/-- figures -/
def nv (c : Nat → Nat) (n : Nat) : Int := if n = 0 then 0 else if n = 1 then (c 0 : Int) - 48 else 10 * ((c 0 : Int) - 48) + ((c 1 : Int) - 48)
abbrev TT : Type := Nat × Nat × Nat × Int
section TOK
variable (tl : Nat) (tb : Nat → Nat)
def skP (p : Nat) : Nat := eR (fun k => decide (ch tl tb k = 32)) p
def ltE (p : Nat) : Nat := eR (fun k => isLt (ch tl tb k)) p
def fgE (p : Nat) : Nat := eR (fun k => isFg (ch tl tb k)) p
def fgB (p : Nat) : Nat := if ch tl tb p = 45 then p + 1 else p
def ltK (p : Nat) : Nat := nmK (fun i => ch tl tb (p + i)) (ltE tl tb p - p) 10
def fgV (p : Nat) : Int := if ch tl tb p = 45 then -nv (fun i => ch tl tb (fgB tl tb p + i)) (fgE tl tb (fgB tl tb p) - fgB tl tb p) else nv (fun i => ch tl tb (fgB tl tb p + i)) (fgE tl tb (fgB tl tb p) - fgB tl tb p)
/-- the token at a place that is no blank: kind (0 end, 1 name, 2 number, 3 none), place, the place behind, value -/
def tokA (p : Nat) : TT :=
  if tl ≤ p then (0, p, p, 0)
  else if isLt (ch tl tb p) = true then (if ltK tl tb p < 10 then 1 else 3, p, ltE tl tb p, (ltK tl tb p : Int))
  else if isFg (ch tl tb p) = true ∨ ch tl tb p = 45 then (if fgB tl tb p < fgE tl tb (fgB tl tb p) ∧ fgE tl tb (fgB tl tb p) ≤ fgB tl tb p + 2 then 2 else 3, p, fgE tl tb (fgB tl tb p), fgV tl tb p)
  else (3, p, p, 0)
def tok (p : Nat) : TT := tokA tl tb (skP tl tb p)
variable {tl tb}
theorem ch_end {k : Nat} (h : tl ≤ k) : ch tl tb k = 999 := if_neg (by omega)
theorem sp_end {j : Nat} (h : tl ≤ j) : decide (ch tl tb j = 32) = false := by rw [ch_end h]; rfl
theorem lt_end {j : Nat} (h : tl ≤ j) : isLt (ch tl tb j) = false := by rw [ch_end h]; rfl
theorem fg_end {j : Nat} (h : tl ≤ j) : isFg (ch tl tb j) = false := by rw [ch_end h]; rfl
def TKo (tl : Nat) (tb : Nat → Nat) (t : TT) : Prop := t.2.1 ≤ t.2.2.1 ∧ t.2.2.1 ≤ tl ∧ (t.1 = 1 → t.2.1 < tl ∧ t.2.1 + 2 ≤ t.2.2.1 ∧ isLt (ch tl tb t.2.2.1) = false ∧ isLt (ch tl tb t.2.1) = true ∧ ∃ k : Nat, k ≤ 9 ∧ t.2.2.2 = (k : Int)) ∧ (t.1 = 2 → t.2.1 < t.2.2.1)
theorem tokA_ok {p : Nat} (h4 : tl ≤ 400) (h : p ≤ tl) : TKo tl tb (tokA tl tb p) ∧ (tokA tl tb p).2.1 = p := by
  unfold tokA
  by_cases g1 : tl ≤ p
  · rw [if_pos g1]
    exact ⟨⟨Nat.le_refl _, h, (fun z => by cases z), (fun z => by cases z)⟩, rfl⟩
  · rw [if_neg g1]
    by_cases g2 : isLt (ch tl tb p) = true
    · rw [if_pos g2]
      refine ⟨⟨eR_le _, eR_b (fun j hj => lt_end hj) h, fun z => ⟨by show p < tl; omega, ?_, eR_s (fun j hj => lt_end hj) h4, g2, ?_⟩, fun z => ?_⟩, rfl⟩
      · have z2 : (if ltK tl tb p < 10 then 1 else 3) = 1 := z
        by_cases q : ltK tl tb p < 10
        · rcases nmK_le (fun i => ch tl tb (p + i)) (ltE tl tb p - p) 10 with h5 | h5
          · have h6 := h5.2 q
            have h7 := lK_2 (nmK (fun i => ch tl tb (p + i)) (ltE tl tb p - p) 10)
            have h8 := h6.1
            show p + 2 ≤ ltE tl tb p
            omega
          · omega
        · rw [if_neg q] at z2; omega
      · have z2 : (if ltK tl tb p < 10 then 1 else 3) = 1 := z
        by_cases q : ltK tl tb p < 10
        · exact ⟨ltK tl tb p, by omega, rfl⟩
        · rw [if_neg q] at z2; omega
      · have z2 : (if ltK tl tb p < 10 then 1 else 3) = 2 := z
        split at z2 <;> omega
    · rw [if_neg g2]
      by_cases g3 : isFg (ch tl tb p) = true ∨ ch tl tb p = 45
      · rw [if_pos g3]
        have hB : p ≤ fgB tl tb p ∧ fgB tl tb p ≤ p + 1 := by unfold fgB; split <;> omega
        have hE : fgB tl tb p ≤ fgE tl tb (fgB tl tb p) := eR_le _
        have hE2 : fgE tl tb (fgB tl tb p) ≤ tl := eR_b (fun j hj => fg_end hj) (by omega)
        refine ⟨⟨by show p ≤ fgE tl tb (fgB tl tb p); omega, hE2, fun z => ?_, fun z => ?_⟩, rfl⟩
        · have z2 : (if fgB tl tb p < fgE tl tb (fgB tl tb p) ∧ fgE tl tb (fgB tl tb p) ≤ fgB tl tb p + 2 then 2 else 3) = 1 := z
          split at z2 <;> omega
        · have z2 : (if fgB tl tb p < fgE tl tb (fgB tl tb p) ∧ fgE tl tb (fgB tl tb p) ≤ fgB tl tb p + 2 then 2 else 3) = 2 := z
          show p < fgE tl tb (fgB tl tb p)
          split at z2 <;> omega
      · rw [if_neg g3]
        exact ⟨⟨Nat.le_refl _, h, (fun z => by cases z), (fun z => by cases z)⟩, rfl⟩
theorem skP_b {p : Nat} (h : p ≤ tl) : p ≤ skP tl tb p ∧ skP tl tb p ≤ tl := ⟨eR_le _, eR_b (fun j hj => sp_end hj) h⟩
theorem tok_ok {p : Nat} (h4 : tl ≤ 400) (h : p ≤ tl) : TKo tl tb (tok tl tb p) ∧ p ≤ (tok tl tb p).2.1 := by
  have h1 := skP_b (tb := tb) h
  have h2 := tokA_ok (tb := tb) h4 h1.2
  exact ⟨h2.1, by unfold tok; rw [h2.2]; exact h1.1⟩
end TOK
/-- the texts: rows of kinds, numbers, rules above -/
abbrev PS : Type := TT × Nat × (Nat → Nat) × (Nat → Nat → Int) × (Nat → Nat)
abbrev PS.t (s : PS) : TT := s.1
abbrev PS.many (s : PS) : Nat := s.2.1
abbrev PS.kd (s : PS) : Nat → Nat := s.2.2.1
abbrev PS.nb (s : PS) : Nat → Nat → Int := s.2.2.2.1
abbrev PS.ab (s : PS) : Nat → Nat := s.2.2.2.2
def lowN (r i : Nat) (nb : Nat → Int) : Int := if r = 0 ∧ i = 3 then 0 else if r = 9 then 1 else if r = 1 ∧ 3 ≤ i then nb (i - 3) else -20
abbrev FA : Type := Nat × Nat
section PRS
variable (tl : Nat) (tb : Nat → Nat)
def numP (r : Nat) : Nat → Nat → TT → (Nat → Int) → FA ⊕ (TT × (Nat → Int))
  | 0, _, t, nb => if t.1 = 3 then .inl (1, t.2.1) else .inr (t, nb)
  | m + 1, i, t, nb => if t.1 = 3 then .inl (1, t.2.1) else if ¬ t.1 = 2 then .inl (2, t.2.1) else if ¬ (lowN r i nb ≤ t.2.2.2 ∧ t.2.2.2 ≤ 20) then .inl (3, t.2.1) else numP r m (i + 1) (tok tl tb t.2.2.1) (fun j => if j = i then t.2.2.2 else nb j)
def rul (s : PS) : Nat := s.t.2.2.2.toNat
def putR (s : PS) (ov : Nat) (q : TT × (Nat → Int)) : PS := (q.1, s.many + 1, (fun j => if j = s.many then rul s else s.kd j), (fun j => if j = s.many then q.2 else s.nb j), fun j => if j = s.many then ov else s.ab j)
def oneP (ov : Nat) (s : PS) : FA ⊕ PS := if ¬ s.t.1 = 1 then .inl (2, s.t.2.1) else match numP tl tb (rul s) (nOf (rul s)) 0 (tok tl tb s.t.2.2.1) (fun _ => 0) with
  | .inl f => .inl f
  | .inr q => .inr (putR s ov q)
def prs : Nat → Nat → PS → FA ⊕ PS
  | 0, _, s => .inl (4, s.t.2.1)
  | d + 1, ov, s => match oneP tl tb ov s with
    | .inl f => .inl f
    | .inr s1 => if rul s < 3 then .inr s1 else if rul s < 6 then (match prs d s.many s1 with
      | .inl f => .inl f
      | .inr s2 => prs d s.many s2) else prs d s.many s1
/-- how many texts are begun -/
def cnt : Nat → Nat → PS → Nat
  | 0, _, _ => 0
  | d + 1, ov, s => if ¬ s.t.1 = 1 then 0 else 1 + match oneP tl tb ov s with
    | .inl _ => 0
    | .inr s1 => if rul s < 3 then 0 else if rul s < 6 then cnt d s.many s1 + (match prs tl tb d s.many s1 with
      | .inl _ => 0
      | .inr s2 => cnt d s.many s2) else cnt d s.many s1
def s00 : PS := (tok tl tb 0, 0, (fun _ => 0), (fun _ _ => 0), fun _ => 0)
/-- what the tape tells -/
def prW : FA ⊕ PS := if (tok tl tb 0).1 = 3 then .inl (1, (tok tl tb 0).2.1) else match prs tl tb 10 0 (s00 tl tb) with
  | .inl f => .inl f
  | .inr s => if ¬ s.t.1 = 0 then .inl (2, s.t.2.1) else .inr s
/-- the reference's way: a stack of texts that are still wanted -/
def popZ : List (Nat × Nat) → List (Nat × Nat)
  | [] => []
  | (w, o) :: R => if w = 0 then popZ R else (w, o) :: R
def psh (r k w ov : Nat) (R : List (Nat × Nat)) : List (Nat × Nat) := if r < 3 then (w, ov) :: R else if r < 6 then (2, k) :: (w, ov) :: R else (1, k) :: (w, ov) :: R
def mach : Nat → PS → List (Nat × Nat) → Option (FA ⊕ PS)
  | _, s, [] => some (.inr s)
  | 0, _, _ :: _ => none
  | n + 1, s, (w, ov) :: R => if 10 ≤ R.length then some (.inl (4, s.t.2.1)) else match oneP tl tb ov s with
    | .inl f => some (.inl f)
    | .inr s1 => mach n s1 (popZ (psh (rul s) s.many (w - 1) ov R))
variable {tl tb}
theorem popZ_s (w o : Nat) (R : List (Nat × Nat)) : popZ ((w + 1, o) :: R) = (w + 1, o) :: R := rfl
theorem popZ_0 (o : Nat) (R : List (Nat × Nat)) : popZ ((0, o) :: R) = popZ R := rfl
theorem mach_f {n w ov : Nat} {s : PS} {R : List (Nat × Nat)} {f : FA} (h : R.length < 10) (ho : oneP tl tb ov s = .inl f) : mach tl tb (n + 1) s ((w, ov) :: R) = some (.inl f) := by
  show (if 10 ≤ R.length then _ else _) = _
  rw [if_neg (by omega), ho]
theorem mach_o {n w ov : Nat} {s s1 : PS} {R : List (Nat × Nat)} (h : R.length < 10) (ho : oneP tl tb ov s = .inr s1) : mach tl tb (n + 1) s ((w, ov) :: R) = mach tl tb n s1 (popZ (psh (rul s) s.many (w - 1) ov R)) := by
  show (if 10 ≤ R.length then _ else _) = _
  rw [if_neg (by omega), ho]
theorem prs_f {d ov : Nat} {s : PS} {f : FA} (ho : oneP tl tb ov s = .inl f) : prs tl tb (d + 1) ov s = .inl f := by
  show (match oneP tl tb ov s with
    | .inl f => Sum.inl f
    | .inr s1 => _) = _
  rw [ho]
theorem prs_0 {d ov : Nat} {s s1 : PS} (ho : oneP tl tb ov s = .inr s1) (h : rul s < 3) : prs tl tb (d + 1) ov s = .inr s1 := by
  unfold prs
  rw [ho]
  exact if_pos h
theorem prs_1 {d ov : Nat} {s s1 : PS} (ho : oneP tl tb ov s = .inr s1) (h : ¬ rul s < 6) : prs tl tb (d + 1) ov s = prs tl tb d s.many s1 := by
  rw [prs]
  rw [ho]
  show (if rul s < 3 then _ else if rul s < 6 then _ else _) = _
  rw [if_neg (by omega), if_neg h]
theorem prs_2 {d ov : Nat} {s s1 : PS} (ho : oneP tl tb ov s = .inr s1) (h3 : ¬ rul s < 3) (h : rul s < 6) : prs tl tb (d + 1) ov s = match prs tl tb d s.many s1 with
    | .inl f => .inl f
    | .inr s2 => prs tl tb d s.many s2 := by
  rw [prs]
  rw [ho]
  show (if rul s < 3 then _ else if rul s < 6 then _ else _) = _
  rw [if_neg h3, if_pos h]
theorem mach_sim : ∀ (d ov : Nat) (s : PS) (w : Nat) (R : List (Nat × Nat)), R.length + d = 10 → ∃ n, ∀ m, mach tl tb (n + m) s ((w + 1, ov) :: R) = match prs tl tb d ov s with
    | .inl f => some (.inl f)
    | .inr s' => mach tl tb m s' (popZ ((w, ov) :: R))
  | 0, ov, s, w, R, h => ⟨1, fun m => by
      rw [Nat.add_comm 1 m]
      show (if 10 ≤ R.length then _ else _) = _
      rw [if_pos (by omega)]
      rfl⟩
  | d + 1, ov, s, w, R, h => by
    cases ho : oneP tl tb ov s with
    | inl f =>
      refine ⟨1, fun m => ?_⟩
      rw [Nat.add_comm 1 m, mach_f (by omega) ho, prs_f ho]
    | inr s1 =>
      by_cases h3 : rul s < 3
      · refine ⟨1, fun m => ?_⟩
        rw [Nat.add_comm 1 m, mach_o (by omega) ho, prs_0 ho h3, show psh (rul s) s.many (w + 1 - 1) ov R = (w, ov) :: R from if_pos h3]
      · by_cases h6 : rul s < 6
        · obtain ⟨n1, e1⟩ := mach_sim d s.many s1 1 ((w, ov) :: R) (by show R.length + 1 + d = 10; omega)
          have ep : psh (rul s) s.many (w + 1 - 1) ov R = (1 + 1, s.many) :: (w, ov) :: R := by
            unfold psh
            rw [if_neg h3, if_pos h6]
            rfl
          rw [prs_2 ho h3 h6]
          cases hp : prs tl tb d s.many s1 with
          | inl f =>
            refine ⟨n1 + 1, fun m => ?_⟩
            have e2 := e1 m
            rw [hp] at e2
            rw [show n1 + 1 + m = (n1 + m) + 1 by omega, mach_o (by omega) ho, ep, popZ_s, e2]
          | inr s2 =>
            obtain ⟨n2, e2⟩ := mach_sim d s.many s2 0 ((w, ov) :: R) (by show R.length + 1 + d = 10; omega)
            refine ⟨n1 + n2 + 1, fun m => ?_⟩
            have e3 := e1 (n2 + m)
            rw [hp] at e3
            rw [show n1 + n2 + 1 + m = (n1 + (n2 + m)) + 1 by omega, mach_o (by omega) ho, ep, popZ_s, e3]
            show mach tl tb (n2 + m) s2 (popZ ((0 + 1, s.many) :: (w, ov) :: R)) = _
            rw [popZ_s]
            exact e2 m
        · obtain ⟨n1, e1⟩ := mach_sim d s.many s1 0 ((w, ov) :: R) (by show R.length + 1 + d = 10; omega)
          refine ⟨n1 + 1, fun m => ?_⟩
          have ep : psh (rul s) s.many (w + 1 - 1) ov R = (0 + 1, s.many) :: (w, ov) :: R := by
            unfold psh
            rw [if_neg h3, if_neg h6]
            rfl
          rw [show n1 + 1 + m = (n1 + m) + 1 by omega, mach_o (by omega) ho, prs_1 ho h6, ep, popZ_s]
          exact e1 m
theorem mach_all (s : PS) : ∃ n, mach tl tb n s [(1, 0)] = some (prs tl tb 10 0 s) := by
  obtain ⟨n, h⟩ := mach_sim (tl := tl) (tb := tb) 10 0 s 0 [] rfl
  refine ⟨n, ?_⟩
  have h2 := h 0
  rw [Nat.add_zero] at h2
  rw [h2]
  cases prs tl tb 10 0 s with
  | inl f => rfl
  | inr s' => rfl
end PRS
