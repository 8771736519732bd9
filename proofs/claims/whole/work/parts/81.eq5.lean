/-! what holds between two calls; the answers are the same -/
def RI (Im : Nat → Int32) (am : Nat → Nat → Int32) (nb : Nat) (T : Nat → TX) (tl : Nat) (tb : Nat → Nat) (ft : Int32) (la : Nat → Int32) (szz : Nat → Nat) (ce : Nat → Nat → Int32) : Prop := Im 0 = nI nb ∧ (∀ b, b < nb → BDT am b (T b)) ∧ TP Im am tl tb ∧ Im 7 = ft ∧ ∀ j, j < 4 → (la j = -1 ∨ (0 ≤ (la j).toInt ∧ (la j).toInt ≤ 2)) ∧ am 43 j = (if la j = -1 then -4 else la j) ∧ am 44 j = nI (szz j) ∧ ∀ i, i < 64 → am 45 (64 * j + i) = ce j i
def LI (X : CX) (I : Nat → Int32) (a : Nat → Nat → Int32) (Im : Nat → Int32) (am : Nat → Nat → Int32) : Prop := ∃ (nb : Nat) (T : Nat → TX) (tl : Nat) (tb : Nat → Nat) (ft : Int32) (la : Nat → Int32) (szz : Nat → Nat) (ce : Nat → Nat → Int32), CI X I a nb T tl tb ft la szz ce ∧ RI Im am nb T tl tb ft la szz ce
section EQ5
variable {X : CX} {I I' : Nat → Int32} {a a' : Nat → Nat → Int32} {Im Im' : Nat → Int32} {am am' : Nat → Nat → Int32} {nb : Nat} {T : Nat → TX} {tl : Nat} {tb : Nat → Nat} {ft : Int32} {la : Nat → Int32} {szz : Nat → Nat} {ce : Nat → Nat → Int32}
theorem RI_of (h : RI Im am nb T tl tb ft la szz ce) (h0 : Im' 0 = Im 0) (h6 : Im' 6 = Im 6) (h7 : Im' 7 = Im 7) (hr : ∀ k, k ≤ 5 ∨ 43 ≤ k → am' k = am k) : RI Im' am' nb T tl tb ft la szz ce := by
  obtain ⟨a1, a2, a3, a4, a5⟩ := h
  refine ⟨h0.trans a1, fun b hb => BDT_of (a2 b hb) (hr 1 (by omega)) (hr 2 (by omega)) (hr 3 (by omega)) (hr 4 (by omega)), ⟨h6.trans a3.1, a3.2.1, fun j hj => by rw [hr 5 (by omega)]; exact a3.2.2 j hj⟩, h7.trans a4, fun j hj => ?_⟩
  rw [hr 43 (by omega), hr 44 (by omega), hr 45 (by omega)]
  exact a5 j hj
theorem RI_sp {u : MS} (h : RI Im am nb T tl tb ft la szz ce) (hs : SP Im am u) : RI u.1 u.2.2.1 nb T tl tb ft la szz ce := RI_of h hs.1 hs.2.1 hs.2.2.1 hs.2.2.2
theorem vf (h : CI X I a nb T tl tb ft la szz ce) {b : Nat} (hb : b < nb) : VF (T b) = vw (T b) := VF_vw (h.1.2.2.2.2 b hb).2.2.1
theorem vfi (h : CI X I a nb T tl tb ft la szz ce) {b : Int32} (hb : 0 ≤ b.toInt ∧ b.toInt < (nb : Int)) : VF (T b.toInt.toNat) = vw (T b.toInt.toNat) := vf h (by omega)
theorem ti {x : Int32} {k : Nat} (hk : k < 2147483648) : x = nI k ↔ x.toInt = (k : Int) := by
  rw [← Int32.toInt_inj, nI_toInt (by omega)]
theorem ti0 {x : Int32} : x = 0 ↔ x.toInt = 0 := ti (k := 0) (by decide)
theorem ti1 {x : Int32} : x = 1 ↔ x.toInt = 1 := ti (k := 1) (by decide)
theorem ti2 {x : Int32} : x = 2 ↔ x.toInt = 2 := ti (k := 2) (by decide)
theorem ti3 {x : Int32} : x = 3 ↔ x.toInt = 3 := ti (k := 3) (by decide)
theorem e_volume {b r r2 : Int32} (hCI : CI X I a nb T tl tb ft la szz ce) (h1 : 0 ≤ b.toInt ∧ b.toInt < (nb : Int) → r = nI (siz (rwI (VF (T b.toInt.toNat))))) (h2 : ¬ (0 ≤ b.toInt ∧ b.toInt < (nb : Int)) → r = -1) (h3 : r2 = if 0 ≤ b.toInt ∧ b.toInt < (nb : Int) then nI (cn (vw (T b.toInt.toNat)) 3375) else -1) : r = r2 := by
  by_cases hb : 0 ≤ b.toInt ∧ b.toInt < (nb : Int)
  · rw [h3, if_pos hb, h1 hb, vfi hCI hb, siz_eq]
  · rw [h3, if_neg hb, h2 hb]
theorem e_point {b i what r r2 : Int32} (hCI : CI X I a nb T tl tb ft la szz ce) (h1 : 0 ≤ b.toInt ∧ b.toInt < (nb : Int) → if 0 ≤ i.toInt ∧ 0 ≤ what.toInt ∧ what.toInt ≤ 2 then ptR (rwI (VF (T b.toInt.toNat))) i.toInt.toNat what r else r = -100) (h2 : ¬ (0 ≤ b.toInt ∧ b.toInt < (nb : Int)) → r = -100) (h3 : if (0 ≤ b.toInt ∧ b.toInt < (nb : Int)) ∧ 0 ≤ i.toInt ∧ 0 ≤ what.toInt ∧ what.toInt ≤ 2 then ((∃ k, k < 3375 ∧ vw (T b.toInt.toNat) k = true ∧ cn (vw (T b.toInt.toNat)) k = i.toInt.toNat ∧ r2 = iI (if what.toInt = 0 then (↑(k % 15) : Int) - 7 else if what.toInt = 1 then (↑(k / 15 % 15) : Int) - 7 else (↑(k / 225) : Int) - 7)) ∨ (cn (vw (T b.toInt.toNat)) 3375 ≤ i.toInt.toNat ∧ r2 = -100)) else r2 = -100) : r = r2 := by
  by_cases hb : 0 ≤ b.toInt ∧ b.toInt < (nb : Int)
  · have h4 := h1 hb
    by_cases hc : 0 ≤ i.toInt ∧ 0 ≤ what.toInt ∧ what.toInt ≤ 2
    · rw [if_pos hc, vfi hCI hb] at h4
      rw [if_pos ⟨hb, hc⟩] at h3
      exact pt_eq hc.2.1 hc.2.2 h4 h3
    · rw [if_neg hc] at h4
      rw [if_neg (fun z => hc z.2)] at h3
      rw [h3, h4]
  · rw [if_neg (fun z => hb z.1)] at h3
    rw [h3, h2 hb]
theorem e_skin {b what r r2 : Int32} (hCI : CI X I a nb T tl tb ft la szz ce) (h1 : 0 ≤ b.toInt ∧ b.toInt < (nb : Int) → r = if what = 0 then nI (sm (sqT (rwI (VF (T b.toInt.toNat)))) 15) else if what = 1 then nI (edS (VF (T b.toInt.toNat)) 0) else if what = 2 then nI (coS (VF (T b.toInt.toNat))) else if what = 3 then nI (edS (VF (T b.toInt.toNat)) 1) else -1) (h2 : ¬ (0 ≤ b.toInt ∧ b.toInt < (nb : Int)) → r = -1) (h3 : r2 = if (0 ≤ b.toInt ∧ b.toInt < (nb : Int)) ∧ 0 ≤ what.toInt ∧ what.toInt ≤ 3 then (if what.toInt = 0 then nI (cn (sq1 (T b.toInt.toNat)) 20250) else if what.toInt = 1 then nI (cn (fun j => decide (0 < sE (T b.toInt.toNat) j)) 12288) else if what.toInt = 2 then nI (cn (sC (T b.toInt.toNat)) 4096) else nI (cn (fun j => decide (sE (T b.toInt.toNat) j = 4)) 12288)) else -1) : r = r2 := by
  by_cases hb : 0 ≤ b.toInt ∧ b.toInt < (nb : Int)
  · rw [h1 hb, vfi hCI hb, sk0_eq, sk1_eq, sk2_eq, sk3_eq, h3]
    simp only [ti0, ti1, ti2, ti3]
    by_cases c0 : what.toInt = 0
    · rw [if_pos c0, if_pos ⟨hb, by omega⟩, if_pos c0]
    · by_cases c1 : what.toInt = 1
      · rw [if_neg c0, if_pos c1, if_pos ⟨hb, by omega⟩, if_neg c0, if_pos c1]
      · by_cases c2 : what.toInt = 2
        · rw [if_neg c0, if_neg c1, if_pos c2, if_pos ⟨hb, by omega⟩, if_neg c0, if_neg c1, if_pos c2]
        · by_cases c3 : what.toInt = 3
          · rw [if_neg c0, if_neg c1, if_neg c2, if_pos c3, if_pos ⟨hb, by omega⟩, if_neg c0, if_neg c1, if_neg c2]
          · rw [if_neg c0, if_neg c1, if_neg c2, if_neg c3, if_neg (fun z => by omega)]
  · rw [h3, if_neg (fun z => hb z.1), h2 hb]
theorem e_parts {b what r r2 : Int32} (hCI : CI X I a nb T tl tb ft la szz ce) (h1 : 0 ≤ b.toInt ∧ b.toInt < (nb : Int) → r = if 0 ≤ what.toInt ∧ what.toInt ≤ 3 then (if what.toInt = 0 then nI (cn (plS (VF (T b.toInt.toNat))) 3375) else if what.toInt = 1 then nI (cn (fun k => plS (NV (VF (T b.toInt.toNat))) k && shS (NV (VF (T b.toInt.toNat))) k) 3375) else if what.toInt = 2 then nI (gmx (plS (VF (T b.toInt.toNat))) (szS (VF (T b.toInt.toNat))) 3375) else nI (smx (fun k => plS (NV (VF (T b.toInt.toNat))) k && shS (NV (VF (T b.toInt.toNat))) k) (szS (NV (VF (T b.toInt.toNat)))) 3375)) else -1) (h2 : ¬ (0 ≤ b.toInt ∧ b.toInt < (nb : Int)) → r = -1) (h3 : r2 = if (0 ≤ b.toInt ∧ b.toInt < (nb : Int)) ∧ 0 ≤ what.toInt ∧ what.toInt ≤ 3 then nI (ptsN (vw (T b.toInt.toNat)) what.toInt) else -1) : r = r2 := by
  by_cases hb : 0 ≤ b.toInt ∧ b.toInt < (nb : Int)
  · rw [h1 hb, vfi hCI hb, pa_eq, h3]
    by_cases hc : 0 ≤ what.toInt ∧ what.toInt ≤ 3
    · rw [if_pos hc, if_pos ⟨hb, hc⟩]
    · rw [if_neg hc, if_neg (fun z => hc z.2)]
  · rw [h3, if_neg (fun z => hb z.1), h2 hb]
theorem e_part {b x y z r r2 : Int32} (hCI : CI X I a nb T tl tb ft la szz ce) (h1 : 0 ≤ b.toInt ∧ b.toInt < (nb : Int) → if -7 ≤ x.toInt ∧ x.toInt ≤ 7 ∧ -7 ≤ y.toInt ∧ y.toInt ≤ 7 ∧ -7 ≤ z.toInt ∧ z.toInt ≤ 7 then (if (VF (T b.toInt.toNat)) (nix x.toInt y.toInt z.toInt) = true then ∃ f, f < 3375 ∧ plS (VF (T b.toInt.toNat)) f = true ∧ cS (VF (T b.toInt.toNat)) f (nix x.toInt y.toInt z.toInt) ∧ r = nI (cn (plS (VF (T b.toInt.toNat))) f) else r = -4) else r = -1) (h2 : ¬ (0 ≤ b.toInt ∧ b.toInt < (nb : Int)) → r = -1) (h3 : if (0 ≤ b.toInt ∧ b.toInt < (nb : Int)) ∧ (-7 ≤ x.toInt ∧ x.toInt ≤ 7 ∧ -7 ≤ y.toInt ∧ y.toInt ≤ 7 ∧ -7 ≤ z.toInt ∧ z.toInt ≤ 7) then (if vw (T b.toInt.toNat) (ixp x.toInt y.toInt z.toInt) = true then ∃ n, pnum (vw (T b.toInt.toNat)) (ixp x.toInt y.toInt z.toInt) n ∧ r2 = nI n else r2 = -4) else r2 = -1) : r = r2 := by
  by_cases hb : 0 ≤ b.toInt ∧ b.toInt < (nb : Int)
  · have h4 := h1 hb
    by_cases hc : -7 ≤ x.toInt ∧ x.toInt ≤ 7 ∧ -7 ≤ y.toInt ∧ y.toInt ≤ 7 ∧ -7 ≤ z.toInt ∧ z.toInt ≤ 7
    · rw [if_pos hc, vfi hCI hb, nix_ix (by omega) (by omega) (by omega)] at h4
      rw [if_pos ⟨hb, hc⟩] at h3
      by_cases hv : vw (T b.toInt.toNat) (ixp x.toInt y.toInt z.toInt) = true
      · rw [if_pos hv] at h3 h4
        obtain ⟨f, f1, f2, f3, f4⟩ := h4
        obtain ⟨n, n1, n2⟩ := h3
        rw [f4, n2, pn_eq f1 f2 f3 n1]
      · rw [if_neg hv] at h3 h4
        rw [h3, h4]
    · rw [if_neg hc] at h4
      rw [if_neg (fun w => hc w.2)] at h3
      rw [h3, h4]
  · rw [if_neg (fun w => hb w.1)] at h3
    rw [h3, h2 hb]
theorem e_slice {b z what r r2 : Int32} (hCI : CI X I a nb T tl tb ft la szz ce) (h1 : 0 ≤ b.toInt ∧ b.toInt < (nb : Int) → r = if -7 ≤ z.toInt ∧ z.toInt ≤ 7 then (if what = 0 then nI (slS (rwI (VF (T b.toInt.toNat))) z.toInt) else if what = 1 then nI (sm (olR (rwI (VF (T b.toInt.toNat))) z.toInt) 15) else if what = 2 then nI (cn (plS (ZV (VF (T b.toInt.toNat)) z.toInt)) 3375) else -1) else -1) (h2 : ¬ (0 ≤ b.toInt ∧ b.toInt < (nb : Int)) → r = -1) (h3 : r2 = if (0 ≤ b.toInt ∧ b.toInt < (nb : Int)) ∧ (-7 ≤ z.toInt ∧ z.toInt ≤ 7) ∧ 0 ≤ what.toInt ∧ what.toInt ≤ 2 then nI (if what.toInt = 0 then cn (fun j => vw (T b.toInt.toNat) (225 * (z.toInt + 7).toNat + j)) 225 else if what.toInt = 1 then cn (ol1 (T b.toInt.toNat) (z.toInt + 7).toNat) 900 else cn (pc1 (T b.toInt.toNat) (z.toInt + 7).toNat) 225) else -1) : r = r2 := by
  by_cases hb : 0 ≤ b.toInt ∧ b.toInt < (nb : Int)
  · rw [h1 hb, vfi hCI hb, h3]
    by_cases hz : -7 ≤ z.toInt ∧ z.toInt ≤ 7
    · have ez : z.toInt = (↑(z.toInt + 7).toNat : Int) - 7 := by omega
      have h15 : (z.toInt + 7).toNat < 15 := by omega
      rw [if_pos hz]
      have e1 := sl_eq (V := vw (T b.toInt.toNat)) h15
      have e2 := ol1_eq (T b.toInt.toNat) h15
      have e3 := pc1_eq (T b.toInt.toNat) h15
      rw [← ez] at e1 e2 e3
      rw [e1, e2, e3]
      simp only [ti0, ti1, ti2]
      by_cases c0 : what.toInt = 0
      · rw [if_pos c0, if_pos ⟨hb, hz, by omega⟩, if_pos c0]
      · by_cases c1 : what.toInt = 1
        · rw [if_neg c0, if_pos c1, if_pos ⟨hb, hz, by omega⟩, if_neg c0, if_pos c1]
        · by_cases c2 : what.toInt = 2
          · rw [if_neg c0, if_neg c1, if_pos c2, if_pos ⟨hb, hz, by omega⟩, if_neg c0, if_neg c1]
          · rw [if_neg c0, if_neg c1, if_neg c2, if_neg (fun w => by omega)]
    · rw [if_neg hz, if_neg (fun w => hz w.2.1)]
  · rw [h3, if_neg (fun w => hb w.1), h2 hb]
theorem e_thin {b way r r2 : Int32} (hCI : CI X I a nb T tl tb ft la szz ce) (h1 : 0 ≤ b.toInt ∧ b.toInt < (nb : Int) → r = if 0 ≤ way.toInt ∧ way.toInt ≤ 2 then nI (thS (VF (T b.toInt.toNat)) way) else -1) (h2 : ¬ (0 ≤ b.toInt ∧ b.toInt < (nb : Int)) → r = -1) (h3 : r2 = if (0 ≤ b.toInt ∧ b.toInt < (nb : Int)) ∧ 0 ≤ way.toInt ∧ way.toInt ≤ 2 then nI (cn (fun k => vw (T b.toInt.toNat) k && !hsd (T b.toInt.toNat) k (2 * way.toInt.toNat) && !hsd (T b.toInt.toNat) k (2 * way.toInt.toNat + 1)) 3375) else -1) : r = r2 := by
  by_cases hb : 0 ≤ b.toInt ∧ b.toInt < (nb : Int)
  · rw [h1 hb, vfi hCI hb, h3]
    by_cases hc : 0 ≤ way.toInt ∧ way.toInt ≤ 2
    · rw [if_pos hc, if_pos ⟨hb, hc⟩, th_eq way way.toInt.toNat (by omega) (nI_ofI rfl hc.1)]
      rfl
    · rw [if_neg hc, if_neg (fun z => hc z.2)]
  · rw [h3, if_neg (fun z => hb z.1), h2 hb]
theorem e_overhang {b z r r2 : Int32} (hCI : CI X I a nb T tl tb ft la szz ce) (h1 : 0 ≤ b.toInt ∧ b.toInt < (nb : Int) → r = if -7 ≤ z.toInt ∧ z.toInt ≤ 7 then nI (hgS (VF (T b.toInt.toNat)) z.toInt) else -1) (h2 : ¬ (0 ≤ b.toInt ∧ b.toInt < (nb : Int)) → r = -1) (h3 : r2 = if (0 ≤ b.toInt ∧ b.toInt < (nb : Int)) ∧ -7 ≤ z.toInt ∧ z.toInt ≤ 7 then nI (cn (fun k => vw (T b.toInt.toNat) k && (decide (z.toInt < (↑(k / 225) : Int) - 7) && !hsd (T b.toInt.toNat) k 4)) 3375) else -1) : r = r2 := by
  by_cases hb : 0 ≤ b.toInt ∧ b.toInt < (nb : Int)
  · rw [h1 hb, vfi hCI hb, h3]
    by_cases hc : -7 ≤ z.toInt ∧ z.toInt ≤ 7
    · rw [if_pos hc, if_pos ⟨hb, hc⟩, hg_eq hc]
      rfl
    · rw [if_neg hc, if_neg (fun w => hc w.2)]
  · rw [h3, if_neg (fun w => hb w.1), h2 hb]
theorem e_parted {b what r r2 : Int32} (h1 : 0 ≤ b.toInt ∧ b.toInt < (nb : Int) → r = if 0 ≤ what.toInt ∧ what.toInt ≤ 4 then iI (pae (T b.toInt.toNat) rt0 what.toInt.toNat) else -1) (h2 : ¬ (0 ≤ b.toInt ∧ b.toInt < (nb : Int)) → r = -1) (h3 : r2 = if (0 ≤ b.toInt ∧ b.toInt < (nb : Int)) ∧ 0 ≤ what.toInt ∧ what.toInt ≤ 4 then (if what.toInt = 0 then iI (pae (T b.toInt.toNat) rt0 0) else if what.toInt = 1 then iI (pae (T b.toInt.toNat) rt0 1) else if what.toInt = 2 then iI (pae (T b.toInt.toNat) rt0 2) else if what.toInt = 3 then iI (pae (T b.toInt.toNat) rt0 3) else iI (pae (T b.toInt.toNat) rt0 4)) else -1) : r = r2 := by
  by_cases hb : 0 ≤ b.toInt ∧ b.toInt < (nb : Int)
  · rw [h1 hb, h3]
    by_cases hc : 0 ≤ what.toInt ∧ what.toInt ≤ 4
    · rw [if_pos hc, if_pos ⟨hb, hc⟩]
      rcases (show what.toInt = 0 ∨ what.toInt = 1 ∨ what.toInt = 2 ∨ what.toInt = 3 ∨ what.toInt = 4 by omega) with e | e | e | e | e <;> rw [e] <;> rfl
    · rw [if_neg hc, if_neg (fun z => hc z.2)]
  · rw [h3, if_neg (fun z => hb z.1), h2 hb]
theorem e_rule {b r r2 : Int32} {P : Prop} [Decidable P] {v : Nat → Int32} (h1 : 0 ≤ b.toInt ∧ b.toInt < (nb : Int) → r = if P then v b.toInt.toNat else -1000000000) (h2 : ¬ (0 ≤ b.toInt ∧ b.toInt < (nb : Int)) → r = -1000000000) (h3 : r2 = if (0 ≤ b.toInt ∧ b.toInt < (nb : Int)) ∧ P then v b.toInt.toNat else -1000000000) : r = r2 := by
  by_cases hb : 0 ≤ b.toInt ∧ b.toInt < (nb : Int)
  · rw [h1 hb, h3]
    by_cases hc : P
    · rw [if_pos hc, if_pos ⟨hb, hc⟩]
    · rw [if_neg hc, if_neg (fun z => hc z.2)]
  · rw [h3, if_neg (fun z => hb z.1), h2 hb]
theorem e_ray {b x y z u v w r r2 : Int32} (h1 : 0 ≤ b.toInt ∧ b.toInt < (nb : Int) → if (-7 ≤ x.toInt ∧ x.toInt ≤ 7 ∧ -7 ≤ y.toInt ∧ y.toInt ≤ 7 ∧ -7 ≤ z.toInt ∧ z.toInt ≤ 7) ∧ ((-3 ≤ u.toInt ∧ u.toInt ≤ 3 ∧ -3 ≤ v.toInt ∧ v.toInt ≤ 3 ∧ -3 ≤ w.toInt ∧ w.toInt ≤ 3) ∧ ¬ (u.toInt = 0 ∧ v.toInt = 0 ∧ w.toInt = 0)) then RYc (T b.toInt.toNat) x.toInt y.toInt z.toInt u.toInt v.toInt w.toInt r else r = -1) (h2 : ¬ (0 ≤ b.toInt ∧ b.toInt < (nb : Int)) → r = -1) (h3 : if (0 ≤ b.toInt ∧ b.toInt < (nb : Int)) ∧ (-7 ≤ x.toInt ∧ x.toInt ≤ 7 ∧ -7 ≤ y.toInt ∧ y.toInt ≤ 7 ∧ -7 ≤ z.toInt ∧ z.toInt ≤ 7) ∧ (-3 ≤ u.toInt ∧ u.toInt ≤ 3) ∧ (-3 ≤ v.toInt ∧ v.toInt ≤ 3) ∧ (-3 ≤ w.toInt ∧ w.toInt ≤ 3) ∧ ¬ (u.toInt = 0 ∧ v.toInt = 0 ∧ w.toInt = 0) then RY (T b.toInt.toNat) x.toInt y.toInt z.toInt u.toInt v.toInt w.toInt r2 else r2 = -1) : r = r2 := by
  by_cases hb : 0 ≤ b.toInt ∧ b.toInt < (nb : Int)
  · have h4 := h1 hb
    by_cases hc : (-7 ≤ x.toInt ∧ x.toInt ≤ 7 ∧ -7 ≤ y.toInt ∧ y.toInt ≤ 7 ∧ -7 ≤ z.toInt ∧ z.toInt ≤ 7) ∧ ((-3 ≤ u.toInt ∧ u.toInt ≤ 3 ∧ -3 ≤ v.toInt ∧ v.toInt ≤ 3 ∧ -3 ≤ w.toInt ∧ w.toInt ≤ 3) ∧ ¬ (u.toInt = 0 ∧ v.toInt = 0 ∧ w.toInt = 0))
    · rw [if_pos hc] at h4
      rw [if_pos ⟨hb, hc.1, by omega, by omega, by omega, hc.2.2⟩] at h3
      exact ry_eq (by omega) (by omega) (by omega) (by omega) (by omega) (by omega) hc.2.2 h4 h3
    · rw [if_neg hc] at h4
      rw [if_neg (fun q => hc ⟨q.2.1, ⟨by omega, q.2.2.2.2.2⟩⟩)] at h3
      rw [h3, h4]
  · rw [if_neg (fun q => hb q.1)] at h3
    rw [h3, h2 hb]
theorem e_both {b1 b2 what r r2 : Int32} (hCI : CI X I a nb T tl tb ft la szz ce) (h1 : (0 ≤ b1.toInt ∧ b1.toInt < (nb : Int)) ∧ (0 ≤ b2.toInt ∧ b2.toInt < (nb : Int)) → r = if what = 0 then nI (boS (VF (T b1.toInt.toNat)) (VF (T b2.toInt.toNat))) else if what = 1 then iI ((↑(siz (rwI (VF (T b1.toInt.toNat)))) : Int) - (↑(boS (VF (T b1.toInt.toNat)) (VF (T b2.toInt.toNat))) : Int)) else if what = 2 then iI ((↑(siz (rwI (VF (T b2.toInt.toNat)))) : Int) - (↑(boS (VF (T b1.toInt.toNat)) (VF (T b2.toInt.toNat))) : Int)) else if what = 3 then (if siz (rwI (VF (T b2.toInt.toNat))) = boS (VF (T b1.toInt.toNat)) (VF (T b2.toInt.toNat)) then 1 else 0) else -1) (h2 : ¬ ((0 ≤ b1.toInt ∧ b1.toInt < (nb : Int)) ∧ (0 ≤ b2.toInt ∧ b2.toInt < (nb : Int))) → r = -1) (h3 : r2 = if (0 ≤ b1.toInt ∧ b1.toInt < (nb : Int)) ∧ (0 ≤ b2.toInt ∧ b2.toInt < (nb : Int)) ∧ 0 ≤ what.toInt ∧ what.toInt ≤ 3 then (if what.toInt = 0 then nI (cn (fun k => vw (T b1.toInt.toNat) k && vw (T b2.toInt.toNat) k) 3375) else if what.toInt = 1 then nI (cn (fun k => vw (T b1.toInt.toNat) k && !vw (T b2.toInt.toNat) k) 3375) else if what.toInt = 2 then nI (cn (fun k => !vw (T b1.toInt.toNat) k && vw (T b2.toInt.toNat) k) 3375) else if cn (fun k => !vw (T b1.toInt.toNat) k && vw (T b2.toInt.toNat) k) 3375 = 0 then 1 else 0) else -1) : r = r2 := by
  by_cases hb : (0 ≤ b1.toInt ∧ b1.toInt < (nb : Int)) ∧ (0 ≤ b2.toInt ∧ b2.toInt < (nb : Int))
  · rw [h1 hb, vfi hCI hb.1, vfi hCI hb.2, h3]
    rw [bo1_eq, bo2_eq, bo_eq]
    have e3 := bo3_eq (V := vw (T b1.toInt.toNat)) (V2 := vw (T b2.toInt.toNat))
    rw [bo_eq] at e3
    simp only [ti0, ti1, ti2, ti3, e3]
    by_cases c0 : what.toInt = 0
    · rw [if_pos c0, if_pos ⟨hb.1, hb.2, by omega⟩, if_pos c0]
    · by_cases c1 : what.toInt = 1
      · rw [if_neg c0, if_pos c1, if_pos ⟨hb.1, hb.2, by omega⟩, if_neg c0, if_pos c1]
      · by_cases c2 : what.toInt = 2
        · rw [if_neg c0, if_neg c1, if_pos c2, if_pos ⟨hb.1, hb.2, by omega⟩, if_neg c0, if_neg c1, if_pos c2]
        · by_cases c3 : what.toInt = 3
          · have hg : (0 ≤ b1.toInt ∧ b1.toInt < (nb : Int)) ∧ (0 ≤ b2.toInt ∧ b2.toInt < (nb : Int)) ∧ 0 ≤ what.toInt ∧ what.toInt ≤ 3 := ⟨hb.1, hb.2, by omega⟩
            rw [if_neg c0, if_neg c1, if_neg c2, if_pos c3, if_pos hg, if_neg c0, if_neg c1, if_neg c2]
          · rw [if_neg c0, if_neg c1, if_neg c2, if_neg c3, if_neg (fun z => by omega)]
  · rw [h3, if_neg (fun z => hb ⟨z.1, z.2.1⟩), h2 hb]
end EQ5
