/-! the reference: spans of a whole text. kd, nb, ab: each rule's kind, numbers, the rule above it -/
def bxr (kd : Nat → Nat) (nb : Nat → Nat → Int) (ab : Nat → Nat) (B : Nat → Int) : Nat → Nat → Nat → Int
  | 0, _ => B
  | f + 1, k => if k = 0 then B else dn (kd (ab k)) (nb (ab k)) (bxr kd nb ab B f (ab k))
def cmb (kd : Nat) (p q : Int × Int) : Int × Int :=
  (if kd = 3 then (if p.1 < (if kd = 5 then -q.2 else q.1) then p.1 else (if kd = 5 then -q.2 else q.1)) else (if p.1 < (if kd = 5 then -q.2 else q.1) then (if kd = 5 then -q.2 else q.1) else p.1),
   if kd = 3 then (if p.2 < (if kd = 5 then -q.1 else q.2) then p.2 else (if kd = 5 then -q.1 else q.2)) else (if p.2 < (if kd = 5 then -q.1 else q.2) then (if kd = 5 then -q.1 else q.2) else p.2))
def stp (kd : Nat) (v : Int × Int) (L : List (Int × Int)) : List (Int × Int) :=
  if kd < 3 then v :: L else if kd < 6 then (match L with
    | p :: q :: R => cmb kd p q :: R
    | L => L) else L
/-- the pile, n rules from the last one on -/
def pil (kd : Nat → Nat) (nb : Nat → Nat → Int) (Bx : Nat → Nat → Int) (many : Nat) : Nat → List (Int × Int)
  | 0 => []
  | n + 1 => stp (kd (many - (n + 1))) (lfL (kd (many - (n + 1))) (nb (many - (n + 1))) (Bx (many - (n + 1))), lfH (kd (many - (n + 1))) (nb (many - (n + 1))) (Bx (many - (n + 1)))) (pil kd nb Bx many n)
/-- how high it is -/
def pln (kd : Nat → Nat) (many : Nat) : Nat → Nat
  | 0 => 0
  | n + 1 => if kd (many - (n + 1)) < 3 then pln kd many n + 1 else if kd (many - (n + 1)) < 6 then pln kd many n - 1 else pln kd many n
/-- the rows of the reference tell this text as body b -/
def BD (a : Nat → Nat → Int32) (b many : Nat) (kd : Nat → Nat) (nb : Nat → Nat → Int) (ab : Nat → Nat) : Prop :=
  a 1 b = nI many ∧ 1 ≤ many ∧ many ≤ 64 ∧ (∀ k, k < many → a 2 (64 * b + k) = nI (kd k) ∧ kd k ≤ 9) ∧ (∀ k, 0 < k → k < many → a 3 (64 * b + k) = nI (ab k) ∧ ab k < k) ∧ (∀ k, k < many → ∀ i, i < nOf (kd k) → a 4 (6 * (64 * b + k) + i) = iI (nb k i)) ∧ (∀ k i, -20 ≤ nb k i ∧ nb k i ≤ 20) ∧ (∀ k, k < many → kd k = 9 → 1 ≤ nb k 0) ∧ (∀ n, n < many → 3 ≤ kd (many - (n + 1)) → kd (many - (n + 1)) < 6 → 2 ≤ pln kd many n) ∧ pln kd many many = 1
def spn (kd : Nat → Nat) (nb : Nat → Nat → Int) (ab : Nat → Nat) (many : Nat) (B : Nat → Int) : Int × Int := (pil kd nb (bxr kd nb ab B 64) many many).headD (0, 0)
theorem bxr_eq {kd : Nat → Nat} {nb : Nat → Nat → Int} {ab : Nat → Nat} {B : Nat → Int} {many : Nat} (h : ∀ k, 0 < k → k < many → ab k < k) : ∀ (f f' k : Nat), k < many → k ≤ f → k ≤ f' → bxr kd nb ab B f k = bxr kd nb ab B f' k
  | 0, 0, _, _, _, _ => rfl
  | 0, f' + 1, k, _, h1, _ => by
    have e : k = 0 := by omega
    subst e
    rfl
  | f + 1, 0, k, _, _, h2 => by
    have e : k = 0 := by omega
    subst e
    rfl
  | f + 1, f' + 1, k, hk, h1, h2 => by
    by_cases e : k = 0
    · subst e; rfl
    · have h3 := h k (by omega) hk
      unfold bxr
      rw [if_neg e, if_neg e, bxr_eq h f f' (ab k) (by omega) (by omega) (by omega)]
theorem bxr_step {kd : Nat → Nat} {nb : Nat → Nat → Int} {ab : Nat → Nat} {B : Nat → Int} {many k : Nat} (h : ∀ k, 0 < k → k < many → ab k < k) (hm : many ≤ 64) (h0 : 0 < k) (hk : k < many) : bxr kd nb ab B 64 k = dn (kd (ab k)) (nb (ab k)) (bxr kd nb ab B 64 (ab k)) := by
  have h3 := h k h0 hk
  rw [bxr_eq h 64 63 (ab k) (by omega) (by omega) (by omega)]
  show (if k = 0 then B else _) = _
  rw [if_neg (by omega)]
theorem dn_b {kd : Nat} {nb B : Nat → Int} {M : Int} (hM : 20 ≤ M) (hn : ∀ i, -20 ≤ nb i ∧ nb i ≤ 20) (hr : kd = 9 → 1 ≤ nb 0) (hB : ∀ i, -M ≤ B i ∧ B i ≤ M) (i : Nat) : -(M + 20) ≤ dn kd nb B i ∧ dn kd nb B i ≤ M + 20 := by
  have b0 := hB i
  have b1 := hB ((i + 2) % 6)
  have b2 := hB 0
  have b3 := hB 1
  have n0 := hn (i / 2)
  have n1 := hn 0
  unfold dn
  by_cases h6 : kd = 6
  · rw [if_pos h6]; omega
  · rw [if_neg h6]
    by_cases h7 : kd = 7
    · rw [if_pos h7]; omega
    · rw [if_neg h7]
      by_cases h8 : kd = 8
      · rw [if_pos h8]; split <;> (try split) <;> omega
      · rw [if_neg h8]
        by_cases h9 : kd = 9
        · rw [if_pos h9]
          have hr := hr h9
          have m0 := Int.emod_nonneg (B 0) (show nb 0 ≠ 0 by omega)
          have m1 := Int.emod_lt_of_pos (B 0) (show 0 < nb 0 by omega)
          have m2 := Int.emod_nonneg (B 1) (show nb 0 ≠ 0 by omega)
          have m3 := Int.emod_lt_of_pos (B 1) (show 0 < nb 0 by omega)
          split
          · split <;> omega
          · split
            · split <;> omega
            · omega
        · rw [if_neg h9]; omega
theorem bxr_b {kd : Nat → Nat} {nb : Nat → Nat → Int} {ab : Nat → Nat} {B : Nat → Int} {many : Nat} (hab : ∀ k, 0 < k → k < many → ab k < k) (hn : ∀ k i, -20 ≤ nb k i ∧ nb k i ≤ 20) (hr : ∀ k, k < many → kd k = 9 → 1 ≤ nb k 0) (hB : ∀ i, -1000 ≤ B i ∧ B i ≤ 1000) : ∀ (f k : Nat), k < many → ∀ i, -(1000 + 20 * (f : Int)) ≤ bxr kd nb ab B f k i ∧ bxr kd nb ab B f k i ≤ 1000 + 20 * (f : Int)
  | 0, k, hk, i => by have := hB i; show _ ≤ B i ∧ B i ≤ _; omega
  | f + 1, k, hk, i => by
    unfold bxr
    by_cases e : k = 0
    · rw [if_pos e]; have := hB i; omega
    · rw [if_neg e]
      have h3 := hab k (by omega) hk
      have := dn_b (kd := kd (ab k)) (nb := nb (ab k)) (B := bxr kd nb ab B f (ab k)) (M := 1000 + 20 * (f : Int)) (by omega) (hn _) (hr _ (by omega)) (fun i => bxr_b hab hn hr hB f (ab k) (by omega) i) i
      omega
theorem pil_len {kd : Nat → Nat} {nb Bx : Nat → Nat → Int} {many : Nat} (hs : ∀ n, n < many → 3 ≤ kd (many - (n + 1)) → kd (many - (n + 1)) < 6 → 2 ≤ pln kd many n) : ∀ n, n ≤ many → (pil kd nb Bx many n).length = pln kd many n
  | 0, _ => rfl
  | n + 1, h => by
    have ih := pil_len (nb := nb) (Bx := Bx) hs n (by omega)
    unfold pil pln stp
    by_cases h3 : kd (many - (n + 1)) < 3
    · rw [if_pos h3, if_pos h3, List.length_cons, ih]
    · rw [if_neg h3, if_neg h3]
      by_cases h6 : kd (many - (n + 1)) < 6
      · rw [if_pos h6, if_pos h6]
        have h2 := hs n (by omega) (by omega) h6
        match hL : pil kd nb Bx many n, ih with
        | [], ih => rw [← ih] at h2; simp at h2
        | [x], ih => rw [← ih] at h2; simp at h2
        | p :: q :: R, ih => simp only [List.length_cons] at ih ⊢; omega
      · rw [if_neg h6, if_neg h6, ih]
theorem mul_b {x y : Int} (h1 : -20 ≤ x ∧ x ≤ 20) (h2 : -3000 ≤ y ∧ y ≤ 3000) : -60000 ≤ x * y ∧ x * y ≤ 60000 := by
  have p1 := Int.mul_nonneg (show 0 ≤ 20 - x by omega) (show 0 ≤ 3000 - y by omega)
  have p2 := Int.mul_nonneg (show 0 ≤ 20 + x by omega) (show 0 ≤ 3000 + y by omega)
  have p3 := Int.mul_nonneg (show 0 ≤ 20 - x by omega) (show 0 ≤ 3000 + y by omega)
  have p4 := Int.mul_nonneg (show 0 ≤ 20 + x by omega) (show 0 ≤ 3000 - y by omega)
  simp only [Int.sub_mul, Int.mul_sub, Int.add_mul, Int.mul_add] at p1 p2 p3 p4
  omega
theorem sqL_b {a b m : Int} (h1 : -3000 ≤ a ∧ a ≤ 3000) (h2 : -3000 ≤ b ∧ b ≤ 3000) (h3 : -20 ≤ m ∧ m ≤ 20) : (0 ≤ sqL a b m ∧ sqL a b m ≤ 9610000) ∧ 0 ≤ sqH a b m ∧ sqH a b m ≤ 9610000 := by
  have p := sq_b (x := a - m) (by omega) (by omega)
  have q := sq_b (x := b - m) (by omega) (by omega)
  unfold sqL sqH
  refine ⟨?_, ?_⟩
  · split
    · omega
    · split <;> omega
  · split <;> omega
theorem pr_b {a b c : Int} (h1 : -3000 ≤ a ∧ a ≤ 3000) (h2 : -3000 ≤ b ∧ b ≤ 3000) (h3 : -20 ≤ c ∧ c ≤ 20) : (-60000 ≤ prL a b c ∧ prL a b c ≤ 60000) ∧ -60000 ≤ prH a b c ∧ prH a b c ≤ 60000 := by
  have p := mul_b h3 h1
  have q := mul_b h3 h2
  unfold prL prH
  refine ⟨?_, ?_⟩ <;> split <;> omega
theorem lf_b {kd : Nat} {nb B : Nat → Int} (hn : ∀ i, -20 ≤ nb i ∧ nb i ≤ 20) (hB : ∀ i, -3000 ≤ B i ∧ B i ≤ 3000) : (-100000000 ≤ lfL kd nb B ∧ lfL kd nb B ≤ 100000000) ∧ -100000000 ≤ lfH kd nb B ∧ lfH kd nb B ≤ 100000000 := by
  have s0 := sqL_b (hB 0) (hB 1) (hn 0)
  have s1 := sqL_b (hB 2) (hB 3) (hn 1)
  have s2 := sqL_b (hB 4) (hB 5) (hn 2)
  have s3 := sq_b (x := nb 3) (by have := hn 3; omega) (by have := hn 3; omega)
  have p0 := pr_b (hB 0) (hB 1) (hn 0)
  have p1 := pr_b (hB 2) (hB 3) (hn 1)
  have p2 := pr_b (hB 4) (hB 5) (hn 2)
  have n0 := hn 0
  have n1 := hn 1
  have n2 := hn 2
  have n3 := hn 3
  have n4 := hn 4
  have n5 := hn 5
  have b0 := hB 0
  have b1 := hB 1
  have b2 := hB 2
  have b3 := hB 3
  have b4 := hB 4
  have b5 := hB 5
  have x1 : -1000000 ≤ mx (mx (mx (mx (mx (nb 0 - B 1) (B 0 - nb 3)) (nb 1 - B 3)) (B 2 - nb 4)) (nb 2 - B 5)) (B 4 - nb 5) ∧ mx (mx (mx (mx (mx (nb 0 - B 1) (B 0 - nb 3)) (nb 1 - B 3)) (B 2 - nb 4)) (nb 2 - B 5)) (B 4 - nb 5) ≤ 1000000 := mxb (mxb (mxb (mxb (mxb (by omega) (by omega)) (by omega)) (by omega)) (by omega)) (by omega)
  have x2 : -1000000 ≤ mx (mx (mx (mx (mx (nb 0 - B 0) (B 1 - nb 3)) (nb 1 - B 2)) (B 3 - nb 4)) (nb 2 - B 4)) (B 5 - nb 5) ∧ mx (mx (mx (mx (mx (nb 0 - B 0) (B 1 - nb 3)) (nb 1 - B 2)) (B 3 - nb 4)) (nb 2 - B 4)) (B 5 - nb 5) ≤ 1000000 := mxb (mxb (mxb (mxb (mxb (by omega) (by omega)) (by omega)) (by omega)) (by omega)) (by omega)
  unfold lfL lfH
  by_cases h0 : kd = 0
  · rw [if_pos h0, if_pos h0]; omega
  · rw [if_neg h0, if_neg h0]
    by_cases h1 : kd = 1
    · rw [if_pos h1, if_pos h1]; omega
    · rw [if_neg h1, if_neg h1]; omega
def vb (v : Int × Int) : Prop := (-100000000 ≤ v.1 ∧ v.1 ≤ 100000000) ∧ -100000000 ≤ v.2 ∧ v.2 ≤ 100000000
theorem cmb_b {kd : Nat} {p q : Int × Int} (hp : vb p) (hq : vb q) : vb (cmb kd p q) := by
  obtain ⟨p1, p2⟩ := p
  obtain ⟨q1, q2⟩ := q
  unfold vb at *
  simp only at hp hq
  unfold cmb
  refine ⟨?_, ?_⟩
  · show -100000000 ≤ (if kd = 3 then (if p1 < (if kd = 5 then -q2 else q1) then p1 else (if kd = 5 then -q2 else q1)) else (if p1 < (if kd = 5 then -q2 else q1) then (if kd = 5 then -q2 else q1) else p1)) ∧ (if kd = 3 then (if p1 < (if kd = 5 then -q2 else q1) then p1 else (if kd = 5 then -q2 else q1)) else (if p1 < (if kd = 5 then -q2 else q1) then (if kd = 5 then -q2 else q1) else p1)) ≤ 100000000
    by_cases h5 : kd = 5
    · rw [if_pos h5, if_neg (by omega)]; split <;> omega
    · rw [if_neg h5]; split <;> split <;> omega
  · show -100000000 ≤ (if kd = 3 then (if p2 < (if kd = 5 then -q1 else q2) then p2 else (if kd = 5 then -q1 else q2)) else (if p2 < (if kd = 5 then -q1 else q2) then (if kd = 5 then -q1 else q2) else p2)) ∧ (if kd = 3 then (if p2 < (if kd = 5 then -q1 else q2) then p2 else (if kd = 5 then -q1 else q2)) else (if p2 < (if kd = 5 then -q1 else q2) then (if kd = 5 then -q1 else q2) else p2)) ≤ 100000000
    by_cases h5 : kd = 5
    · rw [if_pos h5, if_neg (by omega)]; split <;> omega
    · rw [if_neg h5]; split <;> split <;> omega
theorem pil_b {kd : Nat → Nat} {nb Bx : Nat → Nat → Int} {many : Nat} (hn : ∀ k i, -20 ≤ nb k i ∧ nb k i ≤ 20) (hB : ∀ k, k < many → ∀ i, -3000 ≤ Bx k i ∧ Bx k i ≤ 3000) : ∀ n, n ≤ many → ∀ v ∈ pil kd nb Bx many n, vb v
  | 0, _, v, hv => absurd hv List.not_mem_nil
  | n + 1, h, v, hv => by
    have ih := pil_b (kd := kd) hn hB n (by omega)
    unfold pil stp at hv
    by_cases h3 : kd (many - (n + 1)) < 3
    · rw [if_pos h3] at hv
      rcases List.mem_cons.mp hv with e | hv
      · subst e; exact lf_b (hn _) (hB _ (by omega))
      · exact ih v hv
    · rw [if_neg h3] at hv
      by_cases h6 : kd (many - (n + 1)) < 6
      · rw [if_pos h6] at hv
        match hL : pil kd nb Bx many n, ih, hv with
        | [], ih, hv => exact absurd hv List.not_mem_nil
        | [x], ih, hv => exact ih v hv
        | p :: q :: R, ih, hv =>
          rcases List.mem_cons.mp hv with e | hv
          · subst e; exact cmb_b (ih p List.mem_cons_self) (ih q (List.mem_cons_of_mem _ List.mem_cons_self))
          · exact ih v (List.mem_cons_of_mem _ (List.mem_cons_of_mem _ hv))
      · rw [if_neg h6] at hv; exact ih v hv
theorem gbox_at (g : Nat → Nat → Int64) (k : Nat) (B : Nat → Int) {i : Nat} (hi : i < 6) (j : Nat) : gbox g k B (16 + i) j = if j = k then iL (B i) else g (16 + i) j := by
  rcases (show i = 0 ∨ i = 1 ∨ i = 2 ∨ i = 3 ∨ i = 4 ∨ i = 5 by omega) with rfl | rfl | rfl | rfl | rfl | rfl <;> rfl
/-- the pile in the reference's rows, its foot at 0 -/
def PR (g : Nat → Nat → Int64) (L : List (Int × Int)) : Prop := ∀ j v, L.reverse[j]? = some v → g 22 j = iL v.1 ∧ g 23 j = iL v.2
theorem PR_push {g g' : Nat → Nat → Int64} {L : List (Int × Int)} {v : Int × Int} (h : PR g L) (h1 : ∀ j, j < L.length → g' 22 j = g 22 j ∧ g' 23 j = g 23 j) (h2 : g' 22 L.length = iL v.1 ∧ g' 23 L.length = iL v.2) : PR g' (v :: L) := by
  intro j w hj
  rw [List.reverse_cons] at hj
  by_cases hl : j < L.length
  · rw [List.getElem?_append_left (by rw [List.length_reverse]; exact hl)] at hj
    rw [(h1 j hl).1, (h1 j hl).2]
    exact h j w hj
  · rw [List.getElem?_append_right (by rw [List.length_reverse]; omega), List.length_reverse] at hj
    have hz : j - L.length = 0 := by
      have := (List.getElem?_eq_some_iff.mp hj).1
      simp at this
      omega
    rw [hz] at hj
    cases hj
    rw [show j = L.length by omega]
    exact h2
theorem PR_top {g : Nat → Nat → Int64} {p q : Int × Int} {R : List (Int × Int)} (h : PR g (p :: q :: R)) : (g 22 (R.length + 1) = iL p.1 ∧ g 23 (R.length + 1) = iL p.2) ∧ (g 22 R.length = iL q.1 ∧ g 23 R.length = iL q.2) ∧ PR g R := by
  refine ⟨h _ _ ?_, h _ _ ?_, fun j v hj => h j v ?_⟩
  · simp
  · simp
  · have hl := (List.getElem?_eq_some_iff.mp hj).1
    simp only [List.reverse_cons, List.append_assoc]
    rw [List.getElem?_append_left hl]
    exact hj
