/-! the flood, pure: what a piece's taking keeps -/
theorem sv0 (k : Nat) : sdv k 0 = if 0 < k % 15 then k - 1 else 9999 := rfl
theorem sv1 (k : Nat) : sdv k 1 = if k % 15 < 14 then k + 1 else 9999 := rfl
theorem sv2 (k : Nat) : sdv k 2 = if 0 < k / 15 % 15 then k - 15 else 9999 := rfl
theorem sv3 (k : Nat) : sdv k 3 = if k / 15 % 15 < 14 then k + 15 else 9999 := rfl
theorem sv4 (k : Nat) : sdv k 4 = if 0 < k / 225 then k - 225 else 9999 := rfl
theorem sv5 (k : Nat) : sdv k 5 = if k / 225 < 14 then k + 225 else 9999 := rfl
theorem cn_disj {p q : Nat → Bool} : ∀ {n : Nat}, (∀ k, k < n → ¬ (p k = true ∧ q k = true)) → cn (fun k => p k || q k) n = cn p n + cn q n
  | 0, _ => rfl
  | n + 1, h => by
    have ih := cn_disj (n := n) (fun k hk => h k (by omega))
    have hn := h n (by omega)
    show cn (fun k => p k || q k) n + (if (p n || q n) = true then 1 else 0) = cn p n + (if p n = true then 1 else 0) + (cn q n + (if q n = true then 1 else 0))
    rw [ih]
    cases e1 : p n
    · cases e2 : q n
      · simp
      · simp; omega
    · cases e2 : q n
      · simp; omega
      · exact absurd ⟨e1, e2⟩ hn
theorem cn_shift {p : Nat → Bool} : ∀ (n : Nat), cn p (n + 1) = (if p 0 = true then 1 else 0) + cn (fun j => p (j + 1)) n
  | 0 => Nat.add_comm 0 _
  | n + 1 => by
    show cn p (n + 1) + (if p (n + 1) = true then 1 else 0) = _ + (cn (fun j => p (j + 1)) n + (if p (n + 1) = true then 1 else 0))
    rw [cn_shift n]
    omega
theorem sm_one {f : Nat → Nat} {q : Nat} : ∀ {n : Nat}, (∀ r, r < n → r ≠ q → f r = 0) → sm f n = if q < n then f q else 0
  | 0, _ => by rw [if_neg (by omega)]; rfl
  | n + 1, h => by
    show sm f n + f n = _
    rw [sm_one (n := n) (fun r hr => h r (by omega))]
    by_cases e : q = n
    · subst e
      rw [if_neg (by omega), if_pos (by omega)]
      omega
    · rw [h n (by omega) (fun z => e z.symm)]
      by_cases g : q < n
      · rw [if_pos g, if_pos (by omega)]; rfl
      · rw [if_neg g, if_neg (by omega)]
theorem cn_own {q : Nat} {G : Int32} (hq : q < 225) (hG : B15 G) : cn (own q G) 3375 = cn (bt G) 16 := by
  have e := cn_sm (P := own q G) (w := 15) 225
  rw [show 15 * 225 = 3375 from rfl] at e
  rw [e, sm_one (q := q), if_pos hq]
  · have e16 : cn (bt G) 16 = (if bt G 0 = true then 1 else 0) + cn (fun j => bt G (j + 1)) 15 := cn_shift 15
    have h0 : bt G 0 = false := by
      cases z : bt G 0
      · rfl
      · have := (hG 0 z).1; omega
    rw [e16, h0, if_neg (by decide), Nat.zero_add]
    refine cn_cong (fun j hj => ?_)
    unfold own
    rw [show (15 * q + j) / 15 = q by omega, show (15 * q + j) % 15 + 1 = j + 1 by omega, decide_eq_true rfl, Bool.true_and]
  · intro r hr hne
    have : ∀ j, j < 15 → own q G (15 * r + j) = false := fun j hj => by
      unfold own
      rw [decide_eq_false (by omega), Bool.false_and]
    rw [cn_cong (q := fun _ => false) this, cn_zero]
theorem cn_pos {p : Nat → Bool} {n i : Nat} (hi : i < n) (h : p i = true) : 1 ≤ cn p n := by
  have := cn_lt2 (p := fun _ => false) (q := p) (n := n) (fun _ _ z => by cases z) ⟨i, hi, rfl, h⟩
  omega
theorem cn_none {p : Nat → Bool} {n i : Nat} (h : cn p n = 0) (hi : i < n) : p i = false := by
  cases e : p i
  · rfl
  · have := cn_pos hi e; omega
theorem sdv_back {k w : Nat} (hk : k < 3375) (hw : 2 ≤ w ∧ w < 6) (h : sdv k w < 3375) : ∃ w', (2 ≤ w' ∧ w' < 6) ∧ sdv (sdv k w) w' = k := by
  rcases (show w = 2 ∨ w = 3 ∨ w = 4 ∨ w = 5 by omega) with rfl | rfl | rfl | rfl
  · have e : sdv k 2 = k - 15 ∧ 0 < k / 15 % 15 := by unfold sdv at h ⊢; simp at h ⊢; split at h <;> omega
    rw [e.1]
    refine ⟨3, by omega, ?_⟩
    rw [sv3, if_pos (by omega)]
    omega
  · have e : sdv k 3 = k + 15 ∧ k / 15 % 15 < 14 := by unfold sdv at h ⊢; simp at h ⊢; split at h <;> omega
    rw [e.1]
    refine ⟨2, by omega, ?_⟩
    rw [sv2, if_pos (by omega)]
    omega
  · have e : sdv k 4 = k - 225 ∧ 0 < k / 225 := by unfold sdv at h ⊢; simp at h ⊢; split at h <;> omega
    rw [e.1]
    refine ⟨5, by omega, ?_⟩
    rw [sv5, if_pos (by omega)]
    omega
  · have e : sdv k 5 = k + 225 ∧ k / 225 < 14 := by unfold sdv at h ⊢; simp at h ⊢; split at h <;> omega
    rw [e.1]
    refine ⟨4, by omega, ?_⟩
    rw [sv4, if_pos (by omega)]
    omega
def TI (S0 : Nat → Bool) (f : Nat) (L P SK : Nat → Int32) (n sz : Nat) (en : Int32) (tn : Nat) : Prop :=
  (R15 L ∧ R15 P ∧ STK P SK n) ∧ (f < 3375 ∧ S0 f = true ∧ bl L f = false) ∧
  (∀ k, k < 3375 → bl L k = true → bl P k = false) ∧ (∀ k, k < 3375 → (bl L k = true ∨ bl P k = true) → S0 k = true) ∧
  (∀ k, k < 3375 → S0 k = true → bl L k = false → clo 6 (fun y => S0 y = true) f k) ∧
  (∀ k w, k < 3375 → w < 6 → gst S0 L P k = true → sdv k w < 3375 → S0 (sdv k w) = true → bl L (sdv k w) = false) ∧
  sz = cn (gst S0 L P) 3375 ∧ tn ≤ sz ∧ ((en = 1 ∧ ∃ k, k < 3375 ∧ gst S0 L P k = true ∧ isE k = true) ∨ (en = 0 ∧ ¬ ∃ k, k < 3375 ∧ gst S0 L P k = true ∧ isE k = true))
theorem sp_stk {P SK : Nat → Int32} {n q : Nat} (h : STK P SK (n + 1)) (hq : q < 225) (hs : SK n = nI q) (hz : ¬ P q = 0) : STK (upd P q 0) SK n := by
  obtain ⟨h1, h2, h3⟩ := h
  refine ⟨sp0_cn (s := (P, P, SK, n)) hq h1 hz, fun i hi => ?_, fun i j hij hj => h3 i j hij (by omega)⟩
  obtain ⟨p, p1, p2, p3⟩ := h2 i (by omega)
  refine ⟨p, p1, p2, ?_⟩
  have : p ≠ q := fun e => h3 i n hi (by omega) (by rw [p2, hs, e])
  rw [pk_un this]
  exact p3
theorem b_mask : ∀ i, i < 32 → bt 32770 i = decide (i = 1 ∨ i = 15) := by decide +kernel
section TIS
variable {S0 : Nat → Bool} {f : Nat} {L P SK : Nat → Int32} {n sz q : Nat} {en : Int32} {tn : Nat}
theorem TI_own (h : TI S0 f L P SK (n + 1) sz en tn) (hq : q < 225) {k : Nat} (hk : k < 3375) (ho : own q (spB (L, P, SK, n) q) k = true) : (k / 15 = q) ∧ (bl P k = true ∨ bl L k = true) ∧ S0 k = true ∧ clo 6 (fun y => S0 y = true) f k := by
  obtain ⟨⟨hL, hP, -⟩, -, hd, hs, hc, -⟩ := h
  unfold own at ho
  rw [Bool.and_eq_true, decide_eq_true_eq] at ho
  obtain ⟨e, ho⟩ := ho
  have hg := gr_or (B15_lo (hL q hq)) (B15_lo (hP q hq)) ho
  have hpl : bl P k = true ∨ bl L k = true := by unfold bl; rw [e]; exact hg
  have hS : S0 k = true := hs k hk (hpl.symm)
  refine ⟨e, hpl, hS, ?_⟩
  have key := gr_in (B15_lo (hL q hq)) (B15_lo (hP q hq)) (fun i => (1 ≤ i ∧ i ≤ 15) ∧ clo 6 (fun y => S0 y = true) f (15 * q + (i - 1))) (fun i hi => by
    have h15 := hP q hq i hi
    have hb : bl P (15 * q + (i - 1)) = true := by unfold bl; rw [show (15 * q + (i - 1)) / 15 = q by omega, show (15 * q + (i - 1)) % 15 + 1 = i by omega]; exact hi
    have hn : bl L (15 * q + (i - 1)) = false := by
      cases z : bl L (15 * q + (i - 1))
      · rfl
      · rw [hd _ (by omega) z] at hb; cases hb
    exact ⟨h15, hc _ (by omega) (hs _ (by omega) (Or.inr hb)) hn⟩) (fun i j _ _ hij hQ hj => by
    have h15 := hL q hq j hj
    have hb : bl L (15 * q + (j - 1)) = true := by unfold bl; rw [show (15 * q + (j - 1)) / 15 = q by omega, show (15 * q + (j - 1)) % 15 + 1 = j by omega]; exact hj
    have hS2 := hs _ (by omega) (Or.inl hb)
    refine ⟨h15, ?_⟩
    obtain ⟨hQ1, hQ2⟩ := hQ
    rcases hij with e | e
    · have es : sdv (15 * q + (i - 1)) 1 = 15 * q + (j - 1) := by rw [sv1, if_pos (by omega)]; omega
      have := clo_s (w := 1) hQ2 (by omega) (by rw [es]; omega) (by rw [es]; exact hS2)
      rwa [es] at this
    · have es : sdv (15 * q + (i - 1)) 0 = 15 * q + (j - 1) := by rw [sv0, if_pos (by omega)]; omega
      have := clo_s (w := 0) hQ2 (by omega) (by rw [es]; omega) (by rw [es]; exact hS2)
      rwa [es] at this) 14 (k % 15 + 1) ho
  have := key.2
  rwa [show 15 * q + (k % 15 + 1 - 1) = k by omega] at this
theorem TI_pown (h : TI S0 f L P SK (n + 1) sz en tn) {k : Nat} (hk : k < 3375) (e : k / 15 = q) (hp : bl P k = true) : own q (spB (L, P, SK, n) q) k = true := by
  unfold own
  rw [decide_eq_true e, Bool.true_and]
  unfold bl at hp
  rw [e] at hp
  exact gr_sub hp 14
theorem TI_gst (h : TI S0 f L P SK (n + 1) sz en tn) (hq : q < 225) {L' P' S' : Nat → Int32} {n' : Nat} (hr : (L', P', S', n') = spF (L, P, SK, n) q) {k : Nat} (hk : k < 3375) : gst S0 L' P' k = (gst S0 L P k || own q (spB (L, P, SK, n) q) k) := by
  have hb := spF_bl hr hk
  have h1 := TI_own h hq hk
  have h2 := TI_pown (q := q) h hk
  obtain ⟨-, -, hd, hs, -⟩ := h
  have hd := hd k hk
  have hs := hs k hk
  unfold gst
  rw [hb.1, hb.2]
  show (S0 k && (!(bl L k && (!own q (spB (L, P, SK, n) q) k && !nbh q (spB (L, P, SK, n) q) k)) && !((bl P k && !decide (k / 15 = q)) || ((bl L k && !own q (spB (L, P, SK, n) q) k) && nbh q (spB (L, P, SK, n) q) k)))) = _
  cases ho : own q (spB (L, P, SK, n) q) k
  · have hp : (bl P k && !decide (k / 15 = q)) = bl P k := by
      cases z : bl P k
      · rfl
      · by_cases e : k / 15 = q
        · rw [h2 e z] at ho; cases ho
        · rw [decide_eq_false e]; rfl
    rw [hp]
    cases bl L k <;> cases bl P k <;> cases nbh q (spB (L, P, SK, n) q) k <;> cases S0 k <;> rfl
  · obtain ⟨e, -, hS, -⟩ := h1 ho
    rw [hS, decide_eq_true e]
    simp
theorem TI_step (h : TI S0 f L P SK (n + 1) sz en tn) (hq : q < 225) (hsk : SK n = nI q) (hz : ¬ P q = 0) {L' P' S' : Nat → Int32} {n' : Nat} {en' : Int32} (hr : (L', P', S', n') = spF (L, P, SK, n) q) (he : (en' = 1 ∧ spE en q (spB (L, P, SK, n) q)) ∨ (en' = 0 ∧ ¬ spE en q (spB (L, P, SK, n) q))) : TI S0 f L' P' S' n' (sz + cn (bt (spB (L, P, SK, n) q)) 16) en' (tn + 1) := by
  have hown := fun {k : Nat} (hk : k < 3375) => TI_own (q := q) h hq hk
  have hgst := fun {k : Nat} (hk : k < 3375) => TI_gst (q := q) h hq hr hk
  have hbl := fun {k : Nat} (hk : k < 3375) => spF_bl hr hk
  obtain ⟨⟨hL, hP, hst⟩, ⟨f1, f2, f3⟩, hd, hs, hc, hcl, hsz, htn, hen⟩ := h
  have hG : B15 (spB (L, P, SK, n) q) := B15_gr (hL q hq) (hP q hq) 14
  obtain ⟨i0, hi0, hb0⟩ := nz_bit hz
  have hg0 : bt (spB (L, P, SK, n) q) i0 = true := gr_sub hb0 14
  have hg15 := hG i0 hg0
  have ho0 : own q (spB (L, P, SK, n) q) (15 * q + (i0 - 1)) = true := by
    unfold own
    rw [show (15 * q + (i0 - 1)) / 15 = q by omega, show (15 * q + (i0 - 1)) % 15 + 1 = i0 by omega, decide_eq_true rfl, hg0]
    rfl
  -- rows and stack
  have a0 : R15 (sp0 (L, P, SK, n) q).1 ∧ R15 (sp0 (L, P, SK, n) q).2.1 := ⟨R15_upd hL (B15_and (hL q hq)), R15_upd hP B15_0⟩
  have a1 := tkF_15 (s := sp0 (L, P, SK, n) q) (y := spY q - 1) (z := spZ q) (bits := spB (L, P, SK, n) q) rfl a0.1 a0.2
  have a2 := tkF_15 (y := spY q + 1) (z := spZ q) (bits := spB (L, P, SK, n) q) rfl a1.1 a1.2
  have a3 := tkF_15 (y := spY q) (z := spZ q - 1) (bits := spB (L, P, SK, n) q) rfl a2.1 a2.2
  have a4 := tkF_15 (y := spY q) (z := spZ q + 1) (bits := spB (L, P, SK, n) q) rfl a3.1 a3.2
  have s0 : STK (sp0 (L, P, SK, n) q).2.1 (sp0 (L, P, SK, n) q).2.2.1 (sp0 (L, P, SK, n) q).2.2.2 := sp_stk hst hq hsk hz
  have s1 := tkF_stk (s := sp0 (L, P, SK, n) q) (y := spY q - 1) (z := spZ q) (bits := spB (L, P, SK, n) q) rfl s0
  have s2 := tkF_stk (y := spY q + 1) (z := spZ q) (bits := spB (L, P, SK, n) q) rfl s1
  have s3 := tkF_stk (y := spY q) (z := spZ q - 1) (bits := spB (L, P, SK, n) q) rfl s2
  have s4 := tkF_stk (y := spY q) (z := spZ q + 1) (bits := spB (L, P, SK, n) q) rfl s3
  have a5 : R15 (spF (L, P, SK, n) q).1 ∧ R15 (spF (L, P, SK, n) q).2.1 := a4
  have s5 : STK (spF (L, P, SK, n) q).2.1 (spF (L, P, SK, n) q).2.2.1 (spF (L, P, SK, n) q).2.2.2 := s4
  rw [← hr] at a5 s5
  have Lsub : ∀ k, k < 3375 → bl L' k = true → bl L k = true := fun k hk hb => by
    have := (hbl hk).1
    rw [show bl L' k = true from hb] at this
    exact (Bool.and_eq_true _ _ ▸ this.symm : bl L k = true ∧ _).1
  have Lfal : ∀ k, k < 3375 → bl L k = false → bl L' k = false := fun k hk hb => by
    cases z : bl L' k
    · rfl
    · rw [Lsub k hk z] at hb; cases hb
  refine ⟨⟨a5.1, a5.2, s5⟩, ⟨f1, f2, Lfal f f1 f3⟩, ?_, ?_, ?_, ?_, ?_, ?_, ?_⟩
  · intro k hk hb
    have e1 := (hbl hk).1
    have e2 := (hbl hk).2
    have hp := hd k hk (Lsub k hk hb)
    rw [show bl L' k = true from hb] at e1
    have e1 : bl L k = true ∧ (!own q (spB (L, P, SK, n) q) k && !nbh q (spB (L, P, SK, n) q) k) = true := (Bool.and_eq_true _ _).mp e1.symm
    have e3 := (Bool.and_eq_true _ _).mp e1.2
    have e4 : nbh q (spB (L, P, SK, n) q) k = false := by
      have := e3.2
      cases z : nbh q (spB (L, P, SK, n) q) k
      · rfl
      · rw [z] at this; cases this
    rw [show bl P' k = _ from e2]
    show ((bl P k && !decide (k / 15 = q)) || ((bl L k && !own q (spB (L, P, SK, n) q) k) && nbh q (spB (L, P, SK, n) q) k)) = false
    rw [hp, e4, Bool.false_and, Bool.and_false]
    rfl
  · intro k hk hb
    rcases hb with hb | hb
    · exact hs k hk (Or.inl (Lsub k hk hb))
    · have e2 := (hbl hk).2
      rw [show bl P' k = true from hb] at e2
      have e2 : ((bl P k && !decide (k / 15 = q)) || ((bl L k && !own q (spB (L, P, SK, n) q) k) && nbh q (spB (L, P, SK, n) q) k)) = true := e2.symm
      rw [Bool.or_eq_true, Bool.and_eq_true, Bool.and_eq_true, Bool.and_eq_true] at e2
      rcases e2 with e2 | e2
      · exact hs k hk (Or.inr e2.1)
      · exact hs k hk (Or.inl e2.1.1)
  · intro k hk hS hb
    cases z : bl L k
    · exact hc k hk hS z
    · have e1 := (hbl hk).1
      rw [show bl L' k = false from hb] at e1
      have e1 : false = (bl L k && (!own q (spB (L, P, SK, n) q) k && !nbh q (spB (L, P, SK, n) q) k)) := e1
      rw [z, Bool.true_and] at e1
      cases z2 : own q (spB (L, P, SK, n) q) k
      · have z3 : nbh q (spB (L, P, SK, n) q) k = true := by
          cases z4 : nbh q (spB (L, P, SK, n) q) k
          · rw [z2, z4] at e1; cases e1
          · rfl
        obtain ⟨w, hw, h1, h2⟩ := (nbh_iff hq hk).mp z3
        have hcw := (hown h1 h2).2.2.2
        obtain ⟨w', hw', e⟩ := sdv_back hk hw h1
        have := clo_s (w := w') hcw (by omega) (by rw [e]; exact hk) (by rw [e]; exact hS)
        rwa [e] at this
      · exact (hown hk z2).2.2.2
  · intro k w hk hw hg hlt hS
    have hg2 := hgst hk
    rw [show gst S0 L' P' k = true from hg] at hg2
    rcases (Bool.or_eq_true _ _).mp hg2.symm with g | g
    · exact Lfal _ hlt (hcl k w hk hw g hlt hS)
    · obtain ⟨e, -, -, -⟩ := hown hk g
      have e1 := (hbl hlt).1
      show bl L' (sdv k w) = false
      rw [show bl L' (sdv k w) = _ from e1]
      show (bl L (sdv k w) && (!own q (spB (L, P, SK, n) q) (sdv k w) && !nbh q (spB (L, P, SK, n) q) (sdv k w))) = false
      by_cases hw2 : w < 2
      · cases z : bl L (sdv k w)
        · rfl
        · have hrow : sdv k w / 15 = k / 15 ∧ (sdv k w % 15 = k % 15 + 1 ∨ k % 15 = sdv k w % 15 + 1) := by
            rcases (show w = 0 ∨ w = 1 by omega) with rfl | rfl
            · rw [sv0] at hlt ⊢
              by_cases c : 0 < k % 15
              · rw [if_pos c]; omega
              · rw [if_neg c] at hlt; omega
            · rw [sv1] at hlt ⊢
              by_cases c : k % 15 < 14
              · rw [if_pos c]; omega
              · rw [if_neg c] at hlt; omega
          have zo : own q (spB (L, P, SK, n) q) (sdv k w) = true := by
            unfold own at g ⊢
            rw [Bool.and_eq_true] at g
            rw [hrow.1, decide_eq_true e, Bool.true_and]
            refine gr_cl (hL q hq) (hP q hq) ⟨i0, hb0⟩ g.2 (by omega) ?_
            unfold bl at z
            rwa [hrow.1, e] at z
          rw [zo]
          rfl
      · obtain ⟨w', hw', e2⟩ := sdv_back hk (by omega) hlt
        have zn : nbh q (spB (L, P, SK, n) q) (sdv k w) = true := (nbh_iff hq hlt).mpr ⟨w', hw', by rw [e2]; exact hk, by rw [e2]; exact g⟩
        rw [zn]
        simp
  · have e : cn (gst S0 L' P') 3375 = cn (fun k => gst S0 L P k || own q (spB (L, P, SK, n) q) k) 3375 := cn_cong (fun k hk => hgst hk)
    rw [e, cn_disj, ← hsz, cn_own hq hG]
    intro k hk hh
    obtain ⟨-, hpl, -, -⟩ := hown hk hh.2
    have hg := hh.1
    unfold gst at hg
    rcases hpl with z | z
    · rw [z] at hg; simp at hg
    · rw [z] at hg; simp at hg
  · have := cn_pos (p := bt (spB (L, P, SK, n) q)) (n := 16) (i := i0) (by omega) hg0
    omega
  · have key : spE en q (spB (L, P, SK, n) q) ↔ ∃ k, k < 3375 ∧ gst S0 L' P' k = true ∧ isE k = true := by
      have hy : spY q = (↑(q % 15) : Int) + (-7) := rfl
      have hzz : spZ q = (↑(q / 15) : Int) + (-7) := rfl
      have isE_own : ∀ k, k < 3375 → k / 15 = q → (isE k = true ↔ ((q % 15 = 0 ∨ q % 15 = 14) ∨ (q / 15 = 0 ∨ q / 15 = 14) ∨ (k % 15 = 0 ∨ k % 15 = 14))) := by
        intro k hk e
        unfold isE
        simp only [Bool.or_eq_true, beq_iff_eq]
        omega
      constructor
      · rintro (z | z | z | z)
        · rcases hen with ⟨-, k, k1, k2, k3⟩ | ⟨e, -⟩
          · exact ⟨k, k1, by rw [hgst k1, k2]; rfl, k3⟩
          · exact absurd e z
        · exact ⟨15 * q + (i0 - 1), by omega, by rw [hgst (by omega), ho0, Bool.or_true], (isE_own _ (by omega) (by omega)).mpr (Or.inl (by omega))⟩
        · exact ⟨15 * q + (i0 - 1), by omega, by rw [hgst (by omega), ho0, Bool.or_true], (isE_own _ (by omega) (by omega)).mpr (Or.inr (Or.inl (by omega)))⟩
        · obtain ⟨i, hi, hb⟩ := nz_bit z
          rw [b_and, Bool.and_eq_true, b_mask i hi, decide_eq_true_eq] at hb
          have ho : own q (spB (L, P, SK, n) q) (15 * q + (i - 1)) = true := by
            unfold own
            rw [show (15 * q + (i - 1)) / 15 = q by omega, show (15 * q + (i - 1)) % 15 + 1 = i by omega, decide_eq_true rfl, hb.1]
            rfl
          exact ⟨15 * q + (i - 1), by omega, by rw [hgst (by omega), ho, Bool.or_true], (isE_own _ (by omega) (by omega)).mpr (Or.inr (Or.inr (by omega)))⟩
      · rintro ⟨k, k1, k2, k3⟩
        rw [hgst k1] at k2
        rcases (Bool.or_eq_true _ _).mp k2 with g | g
        · rcases hen with ⟨e, -⟩ | ⟨-, e⟩
          · refine Or.inl ?_
            rw [e]
            decide
          · exact absurd ⟨k, k1, g, k3⟩ e
        · obtain ⟨e, -, -, -⟩ := hown k1 g
          rcases (isE_own k k1 e).mp k3 with z | z | z
          · exact Or.inr (Or.inl (by omega))
          · exact Or.inr (Or.inr (Or.inl (by omega)))
          · refine Or.inr (Or.inr (Or.inr (fun w => ?_)))
            have hb := congrArg (fun x => bt x (k % 15 + 1)) w
            simp only [b_and, b_0, b_mask (k % 15 + 1) (by omega)] at hb
            unfold own at g
            rw [Bool.and_eq_true] at g
            rw [g.2, decide_eq_true (by omega)] at hb
            cases hb
    rcases he with ⟨e1, e2⟩ | ⟨e1, e2⟩
    · exact Or.inl ⟨e1, key.mp e2⟩
    · exact Or.inr ⟨e1, fun z => e2 (key.mpr z)⟩
end TIS
