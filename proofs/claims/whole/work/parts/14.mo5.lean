/-! the reference: spans of a whole text. kd, nb, ab: each rule's kind, numbers, the rule above it -/
def bxr (kd : Nat → Nat) (nb : Nat → Nat → Int) (ab : Nat → Nat) (B : Nat → Int) : Nat → Nat → Nat → Int
  | 0, _ => B
  | f + 1, k => if k = 0 then B else dn (kd (ab k)) (nb (ab k)) (bxr kd nb ab B f (ab k))
def cmb (kd : Nat) (p q : Int × Int) : Int × Int :=
  (if kd = 3 then (if p.1 < (if kd = 5 then -q.2 else q.1) then p.1 else (if kd = 5 then -q.2 else q.1)) else (if p.1 < (if kd = 5 then -q.2 else q.1) then (if kd = 5 then -q.2 else q.1) else p.1),
   if kd = 3 then (if p.2 < (if kd = 5 then -q.1 else q.2) then p.2 else (if kd = 5 then -q.1 else q.2)) else (if p.2 < (if kd = 5 then -q.1 else q.2) then (if kd = 5 then -q.1 else q.2) else p.2))
def stp (kd : Nat) (v : Int × Int) (L : List (Int × Int)) : List (Int × Int) :=
  if kd < 3 then v :: L else if kd < 6 then (match L with
    | p :: q :: R => cmb kd p q :: R
    | L => L) else L
/-- the pile, n rules from the last one on -/
def pil (kd : Nat → Nat) (nb : Nat → Nat → Int) (Bx : Nat → Nat → Int) (many : Nat) : Nat → List (Int × Int)
  | 0 => []
  | n + 1 => stp (kd (many - (n + 1))) (lfL (kd (many - (n + 1))) (nb (many - (n + 1))) (Bx (many - (n + 1))), lfH (kd (many - (n + 1))) (nb (many - (n + 1))) (Bx (many - (n + 1)))) (pil kd nb Bx many n)
/-- how high it is -/
def pln (kd : Nat → Nat) (many : Nat) : Nat → Nat
  | 0 => 0
  | n + 1 => if kd (many - (n + 1)) < 3 then pln kd many n + 1 else if kd (many - (n + 1)) < 6 then pln kd many n - 1 else pln kd many n
/-- the rows of the reference tell this text as body b -/
def BD (a : Nat → Nat → Int32) (b many : Nat) (kd : Nat → Nat) (nb : Nat → Nat → Int) (ab : Nat → Nat) : Prop :=
  a 1 b = nI many ∧ 1 ≤ many ∧ many ≤ 64 ∧ (∀ k, k < many → a 2 (64 * b + k) = nI (kd k) ∧ kd k ≤ 9) ∧ (∀ k, 0 < k → k < many → a 3 (64 * b + k) = nI (ab k) ∧ ab k < k) ∧ (∀ k, k < many → ∀ i, i < 6 → a 4 (6 * (64 * b + k) + i) = iI (nb k i)) ∧ (∀ k i, -20 ≤ nb k i ∧ nb k i ≤ 20) ∧ (∀ k, k < many → kd k = 9 → 1 ≤ nb k 0) ∧ (∀ n, n < many → 3 ≤ kd (many - (n + 1)) → kd (many - (n + 1)) < 6 → 2 ≤ pln kd many n) ∧ pln kd many many = 1
def spn (kd : Nat → Nat) (nb : Nat → Nat → Int) (ab : Nat → Nat) (many : Nat) (B : Nat → Int) : Int × Int := (pil kd nb (bxr kd nb ab B 64) many many).headD (0, 0)
theorem bxr_eq {kd : Nat → Nat} {nb : Nat → Nat → Int} {ab : Nat → Nat} {B : Nat → Int} {many : Nat} (h : ∀ k, 0 < k → k < many → ab k < k) : ∀ (f f' k : Nat), k < many → k ≤ f → k ≤ f' → bxr kd nb ab B f k = bxr kd nb ab B f' k
  | 0, 0, _, _, _, _ => rfl
  | 0, f' + 1, k, _, h1, _ => by
    have e : k = 0 := by omega
    subst e
    rfl
  | f + 1, 0, k, _, _, h2 => by
    have e : k = 0 := by omega
    subst e
    rfl
  | f + 1, f' + 1, k, hk, h1, h2 => by
    by_cases e : k = 0
    · subst e; rfl
    · have h3 := h k (by omega) hk
      unfold bxr
      rw [if_neg e, if_neg e, bxr_eq h f f' (ab k) (by omega) (by omega) (by omega)]
theorem bxr_step {kd : Nat → Nat} {nb : Nat → Nat → Int} {ab : Nat → Nat} {B : Nat → Int} {many k : Nat} (h : ∀ k, 0 < k → k < many → ab k < k) (hm : many ≤ 64) (h0 : 0 < k) (hk : k < many) : bxr kd nb ab B 64 k = dn (kd (ab k)) (nb (ab k)) (bxr kd nb ab B 64 (ab k)) := by
  have h3 := h k h0 hk
  rw [bxr_eq h 64 63 (ab k) (by omega) (by omega) (by omega)]
  show (if k = 0 then B else _) = _
  rw [if_neg (by omega)]
theorem dn_b {kd : Nat} {nb B : Nat → Int} {M : Int} (hM : 20 ≤ M) (hn : ∀ i, -20 ≤ nb i ∧ nb i ≤ 20) (hr : kd = 9 → 1 ≤ nb 0) (hB : ∀ i, -M ≤ B i ∧ B i ≤ M) (i : Nat) : -(M + 20) ≤ dn kd nb B i ∧ dn kd nb B i ≤ M + 20 := by
  have b0 := hB i
  have b1 := hB ((i + 2) % 6)
  have b2 := hB 0
  have b3 := hB 1
  have n0 := hn (i / 2)
  have n1 := hn 0
  unfold dn
  by_cases h6 : kd = 6
  · rw [if_pos h6]; omega
  · rw [if_neg h6]
    by_cases h7 : kd = 7
    · rw [if_pos h7]; omega
    · rw [if_neg h7]
      by_cases h8 : kd = 8
      · rw [if_pos h8]; split <;> (try split) <;> omega
      · rw [if_neg h8]
        by_cases h9 : kd = 9
        · rw [if_pos h9]
          have hr := hr h9
          have m0 := Int.emod_nonneg (B 0) (show nb 0 ≠ 0 by omega)
          have m1 := Int.emod_lt_of_pos (B 0) (show 0 < nb 0 by omega)
          have m2 := Int.emod_nonneg (B 1) (show nb 0 ≠ 0 by omega)
          have m3 := Int.emod_lt_of_pos (B 1) (show 0 < nb 0 by omega)
          split
          · split <;> omega
          · split
            · split <;> omega
            · omega
        · rw [if_neg h9]; omega
theorem bxr_b {kd : Nat → Nat} {nb : Nat → Nat → Int} {ab : Nat → Nat} {B : Nat → Int} {many : Nat} (hab : ∀ k, 0 < k → k < many → ab k < k) (hn : ∀ k i, -20 ≤ nb k i ∧ nb k i ≤ 20) (hr : ∀ k, k < many → kd k = 9 → 1 ≤ nb k 0) (hB : ∀ i, -1000 ≤ B i ∧ B i ≤ 1000) : ∀ (f k : Nat), k < many → ∀ i, -(1000 + 20 * (f : Int)) ≤ bxr kd nb ab B f k i ∧ bxr kd nb ab B f k i ≤ 1000 + 20 * (f : Int)
  | 0, k, hk, i => by have := hB i; show _ ≤ B i ∧ B i ≤ _; omega
  | f + 1, k, hk, i => by
    unfold bxr
    by_cases e : k = 0
    · rw [if_pos e]; have := hB i; omega
    · rw [if_neg e]
      have h3 := hab k (by omega) hk
      have := dn_b (kd := kd (ab k)) (nb := nb (ab k)) (B := bxr kd nb ab B f (ab k)) (M := 1000 + 20 * (f : Int)) (by omega) (hn _) (hr _ (by omega)) (fun i => bxr_b hab hn hr hB f (ab k) (by omega) i) i
      omega
