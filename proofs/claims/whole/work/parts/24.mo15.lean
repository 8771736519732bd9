/-! pieces of a body: which places hang together (V: within or not), the least of each, sizes: pure -/
noncomputable def cB (p : Prop) : Bool := @decide p (Classical.propDecidable p)
theorem cB_t {p : Prop} : cB p = true ↔ p := by unfold cB; exact @decide_eq_true_iff p (Classical.propDecidable p)
theorem cB_f {p : Prop} : cB p = false ↔ ¬ p := by
  rw [← Bool.not_eq_true, cB_t]
/-- j hangs together with k, by sides (ways of them) -/
def hng (ways : Nat) (V : Nat → Bool) (k j : Nat) : Prop := clo ways (fun y => V y = V k) k j
noncomputable def lst (ways : Nat) (V : Nat → Bool) (k : Nat) : Bool := cB (∀ i, i < k → ¬ hng ways V i k)
noncomputable def szp (ways : Nat) (V : Nat → Bool) (k : Nat) : Nat := cn (fun j => cB (hng ways V k j)) 3375
noncomputable def sht (V : Nat → Bool) (k : Nat) : Bool := cB (∀ j, hng 6 V k j → isE j = false)
theorem hng_in {ways : Nat} {V : Nat → Bool} {k j : Nat} (hk : k < 3375) (h : hng ways V k j) : j < 3375 ∧ V j = V k := clo_in (ok := fun y => V y = V k) hk rfl h
theorem hng_ok {ways : Nat} {V : Nat → Bool} {k j x y : Nat} (e : V k = V j) (h : clo ways (fun y => V y = V k) x y) : clo ways (fun y => V y = V j) x y := by rw [← e]; exact h
theorem hng_sy {ways : Nat} {V : Nat → Bool} {k j : Nat} (hsym : ∀ x w, x < 3375 → w < ways → sdv x w < 3375 → ∃ w', w' < ways ∧ sdv (sdv x w) w' = x) (hk : k < 3375) (h : hng ways V k j) : hng ways V j k := hng_ok (hng_in hk h).2.symm (clo_sy (ok := fun y => V y = V k) hsym hk rfl h)
theorem hng_tr {ways : Nat} {V : Nat → Bool} {k j i : Nat} (hk : k < 3375) (h : hng ways V k j) (h2 : hng ways V j i) : hng ways V k i := clo_tr h (hng_ok (hng_in hk h).2 h2)
theorem cn_cong {p q : Nat → Bool} : ∀ {n : Nat}, (∀ k, k < n → p k = q k) → cn p n = cn q n
  | 0, _ => rfl
  | n + 1, h => by
    show cn p n + (if p n = true then 1 else 0) = cn q n + (if q n = true then 1 else 0)
    rw [cn_cong (fun k hk => h k (by omega)), h n (by omega)]
theorem cn_add1 {p q : Nat → Bool} {x : Nat} (hx : p x = false) (hq : ∀ k, q k = (p k || decide (k = x))) : ∀ n, cn q n = cn p n + (if x < n then 1 else 0)
  | 0 => rfl
  | n + 1 => by
    have ih := cn_add1 hx hq n
    show cn q n + (if q n = true then 1 else 0) = cn p n + (if p n = true then 1 else 0) + _
    rw [ih, hq n]
    by_cases e : n = x
    · subst e
      rw [hx, if_neg (Nat.lt_irrefl n), if_pos (Nat.lt_succ_self n)]
      simp
    · rw [show decide (n = x) = false from decide_eq_false e, Bool.or_false]
      have e2 : (if x < n + 1 then 1 else 0) = (if x < n then 1 else 0) := by
        by_cases l : x < n
        · rw [if_pos l, if_pos (by omega)]
        · rw [if_neg l, if_neg (by omega)]
      rw [e2]
      omega
theorem cn_zero : ∀ N, cn (fun _ => false) N = 0
  | 0 => rfl
  | n + 1 => cn_zero n
/-- a row without repetition that holds just the places of p: its length is their number -/
theorem cn_enum (N : Nat) : ∀ (m : Nat) (Q : Nat → Nat) (p : Nat → Bool), (∀ i, i < m → Q i < N) → (∀ i j, i < j → j < m → Q i ≠ Q j) → (∀ j, p j = true ↔ ∃ i, i < m ∧ Q i = j) → cn p N = m
  | 0, Q, p, _, _, h3 => by
    have e : ∀ k, k < N → p k = (fun _ => false) k := fun k _ => by
      cases h : p k
      · rfl
      · obtain ⟨i, hi, -⟩ := (h3 k).mp h; omega
    rw [cn_cong e]
    exact cn_zero N
  | m + 1, Q, p, h1, h2, h3 => by
    have ih := cn_enum N m Q (fun j => cB (∃ i, i < m ∧ Q i = j)) (fun i hi => h1 i (by omega)) (fun i j hij hj => h2 i j hij (by omega)) (fun j => cB_t)
    rw [cn_add1 (p := fun j => cB (∃ i, i < m ∧ Q i = j)) (x := Q m) (cB_f.mpr (fun ⟨i, hi, e⟩ => h2 i m hi (by omega) e)) (fun k => ?_) N, ih, if_pos (h1 m (by omega))]
    cases h : p k
    · have hno : ¬ ∃ i, i < m + 1 ∧ Q i = k := fun z => by rw [(h3 k).mpr z] at h; cases h
      rw [cB_f.mpr (fun ⟨i, hi, e⟩ => hno ⟨i, by omega, e⟩), decide_eq_false (fun e => hno ⟨m, by omega, e.symm⟩)]
      rfl
    · obtain ⟨i, hi, e⟩ := (h3 k).mp h
      by_cases z : i = m
      · subst z; rw [decide_eq_true e.symm, Bool.or_true]
      · rw [cB_t.mpr ⟨i, by omega, e⟩, Bool.true_or]
