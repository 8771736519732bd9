/-! the reference: a body parted. A block: x y z (its least point), u v w (its greatest), how deep -/
def en7 (x y z u v w d : Int) (c : Nat) : Int := if c = 0 then x else if c = 1 then y else if c = 2 then z else if c = 3 then u else if c = 4 then v else if c = 5 then w else d
theorem up7 (f : Nat → Int32) (s : Nat) (E : Nat → Int) : upd (upd (upd (upd (upd (upd (upd f s (iI (E 0))) (s + 1) (iI (E 1))) (s + 2) (iI (E 2))) (s + 3) (iI (E 3))) (s + 4) (iI (E 4))) (s + 5) (iI (E 5))) (s + 6) (iI (E 6)) = pt f (fun c => iI (E c)) s 7 := by
  rw [← pt_succ f (fun c => iI (E c)) s 6 rfl, ← pt_succ f (fun c => iI (E c)) s 5 rfl, ← pt_succ f (fun c => iI (E c)) s 4 rfl, ← pt_succ f (fun c => iI (E c)) s 3 rfl, ← pt_succ f (fun c => iI (E c)) s 2 rfl, ← pt_succ f (fun c => iI (E c)) s 1 rfl, ← pt_succ f (fun c => iI (E c)) s 0 rfl, pt_0]
  rfl
def bxe (e : Nat → Int) : Nat → Int := bx6 (e 0) (e 3) (e 1) (e 4) (e 2) (e 5)
def zer : Nat → Int := fun _ => 0
def one4 : Nat → Int := fun i => if i = 4 then 1 else 0
def cb (A B : Nat → Int) (i : Nat) : Int := if i = 3 then (if A 3 < B 3 then B 3 else A 3) else A i + B i
def lfR (t : TX) (e : Nat → Int) (i : Nat) : Int := if i = 0 then 1 else if i = 1 then (if (spT t (bxe e)).2 < 0 then 1 else 0) else if i = 2 then (if (spT t (bxe e)).2 < 0 then (e 3 - e 0 + 1) * (e 4 - e 1 + 1) * (e 5 - e 2 + 1) else 0) else if i = 3 then e 6 else 1
def chd (e : Nat → Int) (p : Nat) : Nat → Int := en7 (if p % 2 = 1 then (e 0 + (e 3 - e 0) / 2) + 1 else e 0) (if 2 * (p / 2 % 2) = 2 then (e 1 + (e 4 - e 1) / 2) + 1 else e 1) (if 4 * (p / 4 % 2) = 4 then (e 2 + (e 5 - e 2) / 2) + 1 else e 2) (if p % 2 = 1 then e 3 else e 0 + (e 3 - e 0) / 2) (if 2 * (p / 2 % 2) = 2 then e 4 else e 1 + (e 4 - e 1) / 2) (if 4 * (p / 4 % 2) = 4 then e 5 else e 2 + (e 5 - e 2) / 2) (e 6 + 1)
def csum (F : (Nat → Int) → Nat → Int) (e : Nat → Int) : Nat → Nat → Int
  | 0 => zer
  | p + 1 => if ¬ (p % 2 = 1 ∧ e 0 = e 3) ∧ ¬ (2 * (p / 2 % 2) = 2 ∧ e 1 = e 4) ∧ ¬ (4 * (p / 4 % 2) = 4 ∧ e 2 = e 5) then cb (csum F e p) (F (chd e p)) else csum F e p
/-- leaves, leaves within, their points, how deep, blocks asked -/
def pa (t : TX) : Nat → (Nat → Int) → Nat → Int
  | 0, _ => zer
  | f + 1, e => if (spT t (bxe e)).2 < 0 ∨ ¬ (spT t (bxe e)).1 < 0 ∨ (e 0 = e 3 ∧ e 1 = e 4 ∧ e 2 = e 5) then lfR t e else cb one4 (csum (pa t f) e 8)
def pae (t : TX) (e : Nat → Int) : Nat → Int := pa t (5 - (e 6).toNat) e
def tot (t : TX) : List (Nat → Int) → Nat → Int
  | [] => zer
  | e :: W => cb (pae t e) (tot t W)
def bd5 (d : Int) : Int := if d = 0 then 15 else if d = 1 then 7 else if d = 2 then 3 else if d = 3 then 1 else 0
def vbk (e : Nat → Int) : Prop := (0 ≤ e 6 ∧ e 6 ≤ 4) ∧ (-7 ≤ e 0 ∧ e 0 ≤ e 3 ∧ e 3 ≤ 7 ∧ e 3 - e 0 ≤ bd5 (e 6)) ∧ (-7 ≤ e 1 ∧ e 1 ≤ e 4 ∧ e 4 ≤ 7 ∧ e 4 - e 1 ≤ bd5 (e 6)) ∧ (-7 ≤ e 2 ∧ e 2 ≤ e 5 ∧ e 5 ≤ 7 ∧ e 5 - e 2 ≤ bd5 (e 6))
def okS : List (Nat → Int) → Prop
  | [] => True
  | e :: W => vbk e ∧ (W.length : Int) + (29 - 7 * e 6) ≤ 100 ∧ okS W
/-- the waiting blocks in the reference's row, the first one at its foot -/
def WR (f : Nat → Int32) (W : List (Nat → Int)) : Prop := ∀ (j : Nat) (e : Nat → Int), W.reverse[j]? = some e → ∀ c, c < 7 → f (7 * j + c) = iI (e c)
theorem WR_push {f : Nat → Int32} {W : List (Nat → Int)} (h : WR f W) (e : Nat → Int) : WR (pt f (fun c => iI (e c)) (7 * W.length) 7) (e :: W) := by
  intro j e' hj c hc
  rw [List.reverse_cons] at hj
  by_cases hl : j < W.length
  · rw [List.getElem?_append_left (by rw [List.length_reverse]; exact hl)] at hj
    have := h j e' hj c hc
    unfold pt
    rw [if_neg (by omega)]
    exact this
  · rw [List.getElem?_append_right (by rw [List.length_reverse]; omega), List.length_reverse] at hj
    have hz : j - W.length = 0 := by
      have := (List.getElem?_eq_some_iff.mp hj).1
      simp at this
      omega
    rw [hz] at hj
    cases hj
    unfold pt
    rw [show j = W.length by omega, if_pos (by omega)]
    congr 2
    omega
theorem WR_pop {f : Nat → Int32} {e : Nat → Int} {W : List (Nat → Int)} (h : WR f (e :: W)) : (∀ c, c < 7 → f (7 * W.length + c) = iI (e c)) ∧ WR f W := by
  refine ⟨h W.length e (by simp), fun j e' hj => h j e' ?_⟩
  have hl := (List.getElem?_eq_some_iff.mp hj).1
  rw [List.reverse_cons, List.getElem?_append_left hl]
  exact hj
theorem cb_comm (A B : Nat → Int) : cb A B = cb B A := by
  funext i
  unfold cb
  by_cases h : i = 3
  · rw [if_pos h, if_pos h]; split <;> split <;> omega
  · rw [if_neg h, if_neg h]; omega
theorem cb_assoc (A B C : Nat → Int) : cb (cb A B) C = cb A (cb B C) := by
  funext i
  unfold cb
  by_cases h : i = 3
  · rw [if_pos h, if_pos h]
    simp only [if_true]
    by_cases h1 : A 3 < B 3
    · rw [if_pos h1]
      by_cases h2 : B 3 < C 3
      · rw [if_pos h2, if_pos (by omega)]
      · rw [if_neg h2, if_pos h1]
    · rw [if_neg h1]
      by_cases h2 : B 3 < C 3
      · rw [if_pos h2]
      · rw [if_neg h2, if_neg h1, if_neg (by omega)]
  · rw [if_neg h, if_neg h, if_neg h, if_neg h]; omega
theorem csum_4 {F : (Nat → Int) → Nat → Int} (hF : ∀ e, 0 ≤ F e 4) (e : Nat → Int) : ∀ p, 0 ≤ csum F e p 4
  | 0 => Int.le_refl 0
  | p + 1 => by
    have ih := csum_4 hF e p
    have h2 := hF (chd e p)
    unfold csum
    split
    · show 0 ≤ (if 4 = 3 then _ else csum F e p 4 + F (chd e p) 4)
      rw [if_neg (by decide)]
      omega
    · exact ih
theorem pa_4 (t : TX) : ∀ (f : Nat) (e : Nat → Int), 0 ≤ pa t f e 4
  | 0, _ => Int.le_refl 0
  | f + 1, e => by
    unfold pa
    split
    · show (0 : Int) ≤ 1; decide
    · have := csum_4 (pa_4 t f) e 8
      show 0 ≤ (if 4 = 3 then _ else (1 : Int) + csum (pa t f) e 8 4)
      rw [if_neg (by decide)]
      omega
theorem tot_4 (t : TX) : ∀ W, 0 ≤ tot t W 4
  | [] => Int.le_refl 0
  | e :: W => by
    have h1 := tot_4 t W
    have h2 := pa_4 t (5 - (e 6).toNat) e
    show 0 ≤ pae t e 4 + tot t W 4
    unfold pae
    omega
theorem cb_4 (A B : Nat → Int) : cb A B 4 = A 4 + B 4 := rfl
theorem pae_leaf {t : TX} {e : Nat → Int} (hv : vbk e) (h : (spT t (bxe e)).2 < 0 ∨ ¬ (spT t (bxe e)).1 < 0 ∨ (e 0 = e 3 ∧ e 1 = e 4 ∧ e 2 = e 5)) : pae t e = lfR t e := by
  unfold pae
  obtain ⟨h6, -⟩ := hv
  rw [show 5 - (e 6).toNat = (4 - (e 6).toNat) + 1 by omega]
  exact if_pos h
theorem pae_part {t : TX} {e : Nat → Int} (hv : vbk e) (h : ¬ ((spT t (bxe e)).2 < 0 ∨ ¬ (spT t (bxe e)).1 < 0 ∨ (e 0 = e 3 ∧ e 1 = e 4 ∧ e 2 = e 5))) : pae t e = cb one4 (csum (pae t) e 8) ∧ e 6 ≤ 3 := by
  obtain ⟨h6, h0, h1, h2⟩ := hv
  have h3 : e 6 ≤ 3 := by
    rcases (show e 6 = 4 ∨ e 6 ≤ 3 by omega) with q | q
    · have hb : bd5 (e 6) = 0 := by rw [q]; rfl
      rw [hb] at h0 h1 h2
      exact absurd (Or.inr (Or.inr ⟨by omega, by omega, by omega⟩)) h
    · exact q
  refine ⟨?_, h3⟩
  unfold pae
  rw [show 5 - (e 6).toNat = (4 - (e 6).toNat) + 1 by omega]
  refine (if_neg h).trans ?_
  have key : ∀ p, csum (pa t (4 - (e 6).toNat)) e p = csum (fun e => pa t (5 - (e 6).toNat) e) e p := by
    intro p
    induction p with
    | zero => rfl
    | succ p ih =>
      unfold csum
      rw [ih]
      have e6 : (chd e p) 6 = e 6 + 1 := rfl
      have : pa t (5 - ((chd e p) 6).toNat) (chd e p) = pa t (4 - (e 6).toNat) (chd e p) := by rw [e6, show 5 - (e 6 + 1).toNat = 4 - (e 6).toNat by omega]
      rw [this]
  rw [key]
theorem chd_ok {e : Nat → Int} {p : Nat} (hv : vbk e) (h3 : e 6 ≤ 3) (hok : ¬ (p % 2 = 1 ∧ e 0 = e 3) ∧ ¬ (2 * (p / 2 % 2) = 2 ∧ e 1 = e 4) ∧ ¬ (4 * (p / 4 % 2) = 4 ∧ e 2 = e 5)) : vbk (chd e p) := by
  obtain ⟨h6, h0, h1, h2⟩ := hv
  have hb : bd5 (e 6) / 2 ≤ bd5 (e 6 + 1) ∧ (e 6 = 3 → bd5 (e 6) = 1) := by
    rcases (show e 6 = 0 ∨ e 6 = 1 ∨ e 6 = 2 ∨ e 6 = 3 by omega) with q | q | q | q <;> rw [q] <;> decide
  generalize hd : bd5 (e 6) = d at *
  generalize hd2 : bd5 (e 6 + 1) = d2 at *
  unfold vbk
  have x6 : chd e p 6 = e 6 + 1 := rfl
  have x0 : chd e p 0 = if p % 2 = 1 then (e 0 + (e 3 - e 0) / 2) + 1 else e 0 := rfl
  have x1 : chd e p 1 = if 2 * (p / 2 % 2) = 2 then (e 1 + (e 4 - e 1) / 2) + 1 else e 1 := rfl
  have x2 : chd e p 2 = if 4 * (p / 4 % 2) = 4 then (e 2 + (e 5 - e 2) / 2) + 1 else e 2 := rfl
  have x3 : chd e p 3 = if p % 2 = 1 then e 3 else e 0 + (e 3 - e 0) / 2 := rfl
  have x4 : chd e p 4 = if 2 * (p / 2 % 2) = 2 then e 4 else e 1 + (e 4 - e 1) / 2 := rfl
  have x5 : chd e p 5 = if 4 * (p / 4 % 2) = 4 then e 5 else e 2 + (e 5 - e 2) / 2 := rfl
  rw [x6, x0, x1, x2, x3, x4, x5, hd2]
  refine ⟨by omega, ?_, ?_, ?_⟩
  · by_cases q : p % 2 = 1
    · rw [if_pos q, if_pos q]; omega
    · rw [if_neg q, if_neg q]; omega
  · by_cases q : 2 * (p / 2 % 2) = 2
    · rw [if_pos q, if_pos q]; omega
    · rw [if_neg q, if_neg q]; omega
  · by_cases q : 4 * (p / 4 % 2) = 4
    · rw [if_pos q, if_pos q]; omega
    · rw [if_neg q, if_neg q]; omega
theorem csum_y {F : (Nat → Int) → Nat → Int} {e : Nat → Int} {p : Nat} (h : ¬ (p % 2 = 1 ∧ e 0 = e 3) ∧ ¬ (2 * (p / 2 % 2) = 2 ∧ e 1 = e 4) ∧ ¬ (4 * (p / 4 % 2) = 4 ∧ e 2 = e 5)) : csum F e (p + 1) = cb (csum F e p) (F (chd e p)) := if_pos h
theorem csum_n {F : (Nat → Int) → Nat → Int} {e : Nat → Int} {p : Nat} (h : ¬ (¬ (p % 2 = 1 ∧ e 0 = e 3) ∧ ¬ (2 * (p / 2 % 2) = 2 ∧ e 1 = e 4) ∧ ¬ (4 * (p / 4 % 2) = 4 ∧ e 2 = e 5))) : csum F e (p + 1) = csum F e p := if_neg h
