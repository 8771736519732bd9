/-! the tape and the sheets are the same; contracts of the rest of the class for any arguments -/
theorem nI_bv (n : Nat) : (nI n).toBitVec = BitVec.ofNat 32 n := by
  show (Int32.ofInt (n : Int)).toBitVec = _
  rw [Int32.toBitVec_ofInt]
  exact BitVec.ofInt_natCast 32 n
theorem and255 (x : Int32) : ∃ n : Nat, n < 256 ∧ x &&& 255 = nI n := by
  refine ⟨(x.toBitVec &&& 255#32).toNat, ?_, ?_⟩
  · rw [BitVec.toNat_and]
    exact Nat.lt_of_le_of_lt Nat.and_le_right (by decide)
  · rw [← Int32.toBitVec_inj, nI_bv, BitVec.ofNat_toNat, BitVec.setWidth_eq]
    rfl
theorem sx8 (v : Int32) : v.toInt8.toInt32 = v <<< ((24 : Int32) &&& 31) >>> ((24 : Int32) &&& 31) := by
  rw [← Int32.toBitVec_inj]
  show (v.toBitVec.signExtend 8).signExtend 32 = (v.toBitVec <<< 24).sshiftRight 24
  apply BitVec.eq_of_getLsbD_eq
  intro i hi
  simp only [BitVec.getLsbD_signExtend, BitVec.getLsbD_sshiftRight, BitVec.getLsbD_shiftLeft, BitVec.msb_eq_getLsbD_last]
  by_cases h : i < 8
  · simp [h, hi, show 24 + i < 32 by omega, show i < 32 - 24 by omega, show ¬ 32 ≤ i by omega, show ¬ 24 + i < 24 by omega]
  · simp [h, hi, show ¬ 24 + i < 32 by omega, show ¬ i < 32 - 24 by omega]
theorem sx16 (v : Int32) : v.toInt16.toInt32 = v <<< ((16 : Int32) &&& 31) >>> ((16 : Int32) &&& 31) := by
  rw [← Int32.toBitVec_inj]
  show (v.toBitVec.signExtend 16).signExtend 32 = (v.toBitVec <<< 16).sshiftRight 16
  apply BitVec.eq_of_getLsbD_eq
  intro i hi
  simp only [BitVec.getLsbD_signExtend, BitVec.getLsbD_sshiftRight, BitVec.getLsbD_shiftLeft, BitVec.msb_eq_getLsbD_last]
  by_cases h : i < 16
  · simp [h, hi, show 16 + i < 32 by omega, show i < 32 - 16 by omega, show ¬ 32 ≤ i by omega, show ¬ 16 + i < 16 by omega]
  · simp [h, hi, show ¬ 16 + i < 32 by omega, show ¬ i < 32 - 16 by omega]
theorem lay_eq (lane v : Int32) : layC lane v = layV lane v := by
  unfold layC layV
  rw [sx8, sx16]
theorem sgn_k (v : Int64) (k : Nat) (hk : k ≤ 56) : (((v.toBitVec >>> k).signExtend 32).signExtend 8).signExtend 32 &&& 255#32 = (v.toBitVec.sshiftRight k).signExtend 32 &&& 255#32 := by
  apply BitVec.eq_of_getLsbD_eq
  intro i hi
  simp only [BitVec.getLsbD_and]
  by_cases h : i < 8
  · have e : (255#32).getLsbD i = true := by
      rcases (show i = 0 ∨ i = 1 ∨ i = 2 ∨ i = 3 ∨ i = 4 ∨ i = 5 ∨ i = 6 ∨ i = 7 by omega) with e | e | e | e | e | e | e | e <;> rw [e] <;> rfl
    rw [e]
    simp only [BitVec.getLsbD_signExtend, BitVec.getLsbD_sshiftRight, BitVec.getLsbD_ushiftRight]
    simp [h, hi]
    rw [if_pos (show i < 64 by omega), if_pos (show i < 64 by omega)]
    rw [if_pos (show k + i < 64 by omega)]
    simp [show i < 64 by omega]
  · have e : (255#32).getLsbD i = false := by
      have q : ∀ j, j < 32 → 8 ≤ j → (255#32).getLsbD j = false := by decide
      exact q i hi (by omega)
    rw [e, Bool.and_false, Bool.and_false]
theorem bs_by (v : Int64) (i : Nat) (hi : i < 8) : bsg v i &&& 255 = by8 v i := by
  rw [← Int32.toBitVec_inj]
  rcases (show i = 0 ∨ i = 1 ∨ i = 2 ∨ i = 3 ∨ i = 4 ∨ i = 5 ∨ i = 6 ∨ i = 7 by omega) with e | e | e | e | e | e | e | e <;> subst e
  · exact sgn_k v 56 (by decide)
  · exact sgn_k v 48 (by decide)
  · exact sgn_k v 40 (by decide)
  · exact sgn_k v 32 (by decide)
  · exact sgn_k v 24 (by decide)
  · exact sgn_k v 16 (by decide)
  · exact sgn_k v 8 (by decide)
  · exact sgn_k v 0 (by decide)

theorem j_of {j : Int32} (h : 0 ≤ j.toInt ∧ j.toInt < 4) : j = nI j.toInt.toNat ∧ j.toInt.toNat < 4 := ⟨nI_ofI rfl h.1, by omega⟩
theorem k_So_both (l : Launch) (D : va_G) (cT : Nat → ClassId) (X : CX) (I : Nat → Int32) (a : Nat → Nat → Int32) (b1 b2 what : Int32) (nb : Nat) (T : Nat → TX) (tl : Nat) (tb : Nat → Nat) (ft : Int32) (la : Nat → Int32) (szz : Nat → Nat) (ce : Nat → Nat → Int32) (hCI : CI X I a nb T tl tb ft la szz ce) : CMi l D cT X y_So_both b_So_both 6 (some .int) 26 865 [.ref (X.1 0), .int b1, .int b2, .int what] I a (fun r u => ((0 ≤ b1.toInt ∧ b1.toInt < (nb : Int)) ∧ (0 ≤ b2.toInt ∧ b2.toInt < (nb : Int)) → r = if what = 0 then nI (boS (VF (T b1.toInt.toNat)) (VF (T b2.toInt.toNat))) else if what = 1 then iI ((↑(siz (rwI (VF (T b1.toInt.toNat)))) : Int) - (↑(boS (VF (T b1.toInt.toNat)) (VF (T b2.toInt.toNat))) : Int)) else if what = 2 then iI ((↑(siz (rwI (VF (T b2.toInt.toNat)))) : Int) - (↑(boS (VF (T b1.toInt.toNat)) (VF (T b2.toInt.toNat))) : Int)) else if what = 3 then (if siz (rwI (VF (T b2.toInt.toNat))) = boS (VF (T b1.toInt.toNat)) (VF (T b2.toInt.toNat)) then 1 else 0) else -1) ∧ (¬ ((0 ≤ b1.toInt ∧ b1.toInt < (nb : Int)) ∧ (0 ≤ b2.toInt ∧ b2.toInt < (nb : Int))) → r = -1) ∧ CI X u.1 u.2 nb T tl tb ft la szz ce) := by
  by_cases h1 : 0 ≤ b1.toInt ∧ b1.toInt < (nb : Int)
  · obtain ⟨e1, f1⟩ := b_of h1
    by_cases h2 : 0 ≤ b2.toInt ∧ b2.toInt < (nb : Int)
    · obtain ⟨e2, f2⟩ := b_of h2
      have h := c_So_both_y l D cT X I a b1.toInt.toNat b2.toInt.toNat what nb T tl tb ft la szz ce hCI f1 f2
      rw [← e1, ← e2] at h
      exact CMi_imp h (fun r u hp => ⟨fun _ => hp.1, fun z => absurd ⟨h1, h2⟩ z, hp.2⟩)
    · have h := c_So_both_yn l D cT X I a b1.toInt.toNat b2 what nb T tl tb ft la szz ce hCI f1 h2
      rw [← e1] at h
      exact CMi_imp h (fun r u hp => ⟨fun z => absurd z.2 h2, fun _ => hp.1, hp.2⟩)
  · by_cases h2 : 0 ≤ b2.toInt ∧ b2.toInt < (nb : Int)
    · obtain ⟨e2, f2⟩ := b_of h2
      have h := c_So_both_ny l D cT X I a b1 b2.toInt.toNat what nb T tl tb ft la szz ce hCI h1 f2
      rw [← e2] at h
      exact CMi_imp h (fun r u hp => ⟨fun z => absurd z.1 h1, fun _ => hp.1, hp.2⟩)
    · exact CMi_imp (c_So_both_n l D cT X I a b1 b2 what nb T tl tb ft la szz ce hCI h1 h2) (fun r u hp => ⟨fun z => absurd z.1 h1, fun _ => hp.1, by rw [hp.2]; exact hCI⟩)
theorem k_So_scan (l : Launch) (D : va_G) (cT : Nat → ClassId) (X : CX) (I : Nat → Int32) (a : Nat → Nat → Int32) (b j lane f n : Int32) (nb : Nat) (T : Nat → TX) (tl : Nat) (tb : Nat → Nat) (ft : Int32) (la : Nat → Int32) (szz : Nat → Nat) (ce : Nat → Nat → Int32) (hCI : CI X I a nb T tl tb ft la szz ce) : RDi l D cT (cw cT X I a) y_So_scan b_So_scan 8 (some .int) 26 872 [.ref (X.1 0), .int b, .int j, .int lane, .int f, .int n] (fun r => ((0 ≤ b.toInt ∧ b.toInt < (nb : Int)) ∧ (0 ≤ j.toInt ∧ j.toInt < 4) → r = if ((0 ≤ lane.toInt ∧ lane.toInt ≤ 2) ∧ 0 ≤ n.toInt ∧ n.toInt ≤ 20) then (if la j.toInt.toNat = -1 then -11 else if la j.toInt.toNat = lane then scn (T b.toInt.toNat) (a (10 + 2 * j.toInt.toNat + 1)) (szz j.toInt.toNat : Int) f.toInt n.toInt.toNat 0 0 else -13) else -1) ∧ (¬ ((0 ≤ b.toInt ∧ b.toInt < (nb : Int)) ∧ (0 ≤ j.toInt ∧ j.toInt < 4)) → r = -1)) := by
  by_cases h1 : 0 ≤ b.toInt ∧ b.toInt < (nb : Int)
  · obtain ⟨e1, f1⟩ := b_of h1
    by_cases h2 : 0 ≤ j.toInt ∧ j.toInt < 4
    · obtain ⟨e2, f2⟩ := j_of h2
      have h := c_So_scan_yy l D cT X I a b.toInt.toNat j.toInt.toNat lane f n nb T tl tb ft la szz ce hCI f1 f2
      rw [← e1, ← e2, (hCI.2.2.2.2 _ f2).1] at h
      exact RDi_imp h (fun r hp => ⟨fun _ => hp, fun z => absurd ⟨h1, h2⟩ z⟩)
    · have h := c_So_scan_yn l D cT X I a b.toInt.toNat j lane f n nb T tl tb ft la szz ce hCI f1 h2
      rw [← e1] at h
      exact RDi_imp h (fun r hp => ⟨fun z => absurd z.2 h2, fun _ => hp⟩)
  · by_cases h2 : 0 ≤ j.toInt ∧ j.toInt < 4
    · obtain ⟨e2, f2⟩ := j_of h2
      have h := c_So_scan_ny l D cT X I a b j.toInt.toNat lane f n nb T tl tb ft la szz ce hCI h1 f2
      rw [← e2] at h
      exact RDi_imp h (fun r hp => ⟨fun z => absurd z.1 h1, fun _ => hp⟩)
    · exact RDi_imp (c_So_scan_nn l D cT X I a b j lane f n nb T tl tb ft la szz ce hCI h1 h2) (fun r hp => ⟨fun z => absurd z.1 h1, fun _ => hp⟩)
theorem k_So_count (l : Launch) (D : va_G) (cT : Nat → ClassId) (X : CX) (I : Nat → Int32) (a : Nat → Nat → Int32) (w : Int32) (nb : Nat) (T : Nat → TX) (tl : Nat) (tb : Nat → Nat) (ft : Int32) (la : Nat → Int32) (szz : Nat → Nat) (ce : Nat → Nat → Int32) (hCI : CI X I a nb T tl tb ft la szz ce) : RDi l D cT (cw cT X I a) y_So_count b_So_count 2 (some .int) 2 42 [.ref (X.1 0), .int w] (fun r => r = if w = 0 then nI nb else if w = 1 then (if la 0 = -1 then -4 else nI (szz 0)) else if w = 2 then nI tl else if w = 3 then (if nb = 0 then -4 else nI (T (nb - 1)).1) else -1) := by
  have q1 : I 101 = la 0 := (hCI.2.2.2.2 0 (by decide)).1
  have q2 : I 102 = nI (szz 0) := (hCI.2.2.2.2 0 (by decide)).2.1.1
  have q3 : I 11 = nI tl := hCI.2.2.1.1
  by_cases h0 : nb = 0
  · refine RDi_imp (c_So_count_n l D cT X I a w nb T tl tb ft la szz ce hCI h0) (fun r hp => ?_)
    rw [if_pos h0, ← q1, ← q2, ← q3]; exact hp
  · refine RDi_imp (c_So_count_y l D cT X I a w nb T tl tb ft la szz ce hCI (by omega)) (fun r hp => ?_)
    rw [if_neg h0, ← q1, ← q2, ← q3]; exact hp
theorem k_So_sheet (l : Launch) (D : va_G) (cT : Nat → ClassId) (X : CX) (I : Nat → Int32) (a : Nat → Nat → Int32) (j lane n : Int32) : CMi l D cT X y_So_sheet b_So_sheet 5 (some .int) 2 42 [.ref (X.1 0), .int j, .int lane, .int n] I a (fun r u => if 0 ≤ j.toInt ∧ j.toInt < 4 then (if (0 ≤ lane.toInt ∧ lane.toInt ≤ 2) ∧ n.toInt ≤ 64 then (if n.toInt < 0 then r = -14 ∧ u = (I, a) else r = 1 ∧ u = (upd (upd I (10 * (10 + 2 * j.toInt.toNat) + 1) lane) (10 * (10 + 2 * j.toInt.toNat) + 2) n, va_up a (10 + 2 * j.toInt.toNat + 1) (zr (a (10 + 2 * j.toInt.toNat + 1)) 0 64))) else r = -1 ∧ u = (I, a)) else r = -1 ∧ u = (I, a)) := by
  by_cases h2 : 0 ≤ j.toInt ∧ j.toInt < 4
  · obtain ⟨e2, f2⟩ := j_of h2
    have h := c_So_sheet_y l D cT X I a j.toInt.toNat lane n f2
    rw [← e2] at h
    exact CMi_imp h (fun r u hp => by rw [if_pos h2]; exact hp)
  · exact CMi_imp (c_So_sheet_n l D cT X I a j lane n h2) (fun r u hp => by rw [if_neg h2]; exact hp)
theorem k_So_lay (l : Launch) (D : va_G) (cT : Nat → ClassId) (X : CX) (I : Nat → Int32) (a : Nat → Nat → Int32) (j i v : Int32) (nb : Nat) (T : Nat → TX) (tl : Nat) (tb : Nat → Nat) (ft : Int32) (la : Nat → Int32) (szz : Nat → Nat) (ce : Nat → Nat → Int32) (hCI : CI X I a nb T tl tb ft la szz ce) : CMi l D cT X y_So_lay b_So_lay 5 (some .int) 2 43 [.ref (X.1 0), .int j, .int i, .int v] I a (fun r u => if 0 ≤ j.toInt ∧ j.toInt < 4 then (if la j.toInt.toNat = -1 then r = -11 ∧ u = (I, a) else if 0 ≤ i.toInt ∧ i.toInt < (szz j.toInt.toNat : Int) then r = 1 ∧ u = (I, va_up a (10 + 2 * j.toInt.toNat + 1) (upd (a (10 + 2 * j.toInt.toNat + 1)) i.toInt.toNat (layC (la j.toInt.toNat) v))) else r = -12 ∧ u = (I, a)) else r = -1 ∧ u = (I, a)) := by
  by_cases h2 : 0 ≤ j.toInt ∧ j.toInt < 4
  · obtain ⟨e2, f2⟩ := j_of h2
    obtain ⟨g1, ⟨g2, g3⟩, g4⟩ := hCI.2.2.2.2 _ f2
    have h := c_So_lay_y l D cT X I a j.toInt.toNat i v (szz j.toInt.toNat) g2 g3 f2
    rw [← e2, g1] at h
    exact CMi_imp h (fun r u hp => by rw [if_pos h2]; exact hp)
  · exact CMi_imp (c_So_lay_n l D cT X I a j i v h2) (fun r u hp => by rw [if_neg h2]; exact hp)
section EQ6
variable {X X' : CX} {I I' : Nat → Int32} {a a' : Nat → Nat → Int32} {Im Im' : Nat → Int32} {am am' : Nat → Nat → Int32} {nb : Nat} {T : Nat → TX} {tl : Nat} {tb : Nat → Nat} {ft : Int32} {la : Nat → Int32} {szz : Nat → Nat} {ce : Nat → Nat → Int32}
theorem scn_cong {t : TX} {c c' : Nat → Int32} {len f : Int} (hl : len ≤ 64) (h : ∀ i, i < 64 → c i = c' i) : ∀ m i s, scn t c len f m i s = scn t c' len f m i s
  | 0, _, _ => rfl
  | m + 1, i, s => by
    unfold scn
    by_cases q : 0 ≤ f + (↑(3 * i) : Int) ∧ f + (↑(3 * i) : Int) ≤ len - 3
    · rw [if_pos q, if_pos q, h _ (by omega), h _ (by omega), h _ (by omega), scn_cong hl h m]
    · rw [if_neg q, if_neg q]
theorem la4 {x : Int32} (h : x = -1 ∨ (0 ≤ x.toInt ∧ x.toInt ≤ 2)) : ((if x = -1 then (-4 : Int32) else x) = -4) ↔ x = -1 := by
  by_cases e : x = -1
  · rw [if_pos e]; exact ⟨fun _ => e, fun _ => rfl⟩
  · rw [if_neg e]
    refine ⟨fun z => ?_, fun z => absurd z e⟩
    rw [z] at h
    exact absurd (h.resolve_left (by decide)) (by decide)
theorem e_scan {b j lane f n r r2 : Int32} (hCI : CI X I a nb T tl tb ft la szz ce) (hRI : RI Im am nb T tl tb ft la szz ce) (h1 : (0 ≤ b.toInt ∧ b.toInt < (nb : Int)) ∧ (0 ≤ j.toInt ∧ j.toInt < 4) → r = if ((0 ≤ lane.toInt ∧ lane.toInt ≤ 2) ∧ 0 ≤ n.toInt ∧ n.toInt ≤ 20) then (if la j.toInt.toNat = -1 then -11 else if la j.toInt.toNat = lane then scn (T b.toInt.toNat) (a (10 + 2 * j.toInt.toNat + 1)) (szz j.toInt.toNat : Int) f.toInt n.toInt.toNat 0 0 else -13) else -1) (h2 : ¬ ((0 ≤ b.toInt ∧ b.toInt < (nb : Int)) ∧ (0 ≤ j.toInt ∧ j.toInt < 4)) → r = -1) (h3 : r2 = if (0 ≤ b.toInt ∧ b.toInt < (nb : Int)) ∧ (0 ≤ j.toInt ∧ j.toInt ≤ 3) ∧ (0 ≤ lane.toInt ∧ lane.toInt ≤ 2) ∧ 0 ≤ n.toInt ∧ n.toInt ≤ 20 then (if am 43 j.toInt.toNat = lane then scn (T b.toInt.toNat) (fun q => am 45 (64 * j.toInt.toNat + q)) (am 44 j.toInt.toNat).toInt f.toInt n.toInt.toNat 0 0 else if am 43 j.toInt.toNat = -4 then -11 else -13) else -1) : r = r2 := by
  by_cases hb : (0 ≤ b.toInt ∧ b.toInt < (nb : Int)) ∧ (0 ≤ j.toInt ∧ j.toInt < 4)
  · rw [h1 hb, h3]
    by_cases hc : (0 ≤ lane.toInt ∧ lane.toInt ≤ 2) ∧ 0 ≤ n.toInt ∧ n.toInt ≤ 20
    · have hj : j.toInt.toNat < 4 := by omega
      obtain ⟨g1, g2, g3, g4⟩ := hRI.2.2.2.2 _ hj
      obtain ⟨c1, ⟨c2, c3⟩, c4⟩ := hCI.2.2.2.2 _ hj
      have hg : (0 ≤ b.toInt ∧ b.toInt < (nb : Int)) ∧ (0 ≤ j.toInt ∧ j.toInt ≤ 3) ∧ (0 ≤ lane.toInt ∧ lane.toInt ≤ 2) ∧ 0 ≤ n.toInt ∧ n.toInt ≤ 20 := ⟨hb.1, ⟨hb.2.1, by omega⟩, hc⟩
      rw [if_pos hc, if_pos hg, g2, g3, nI_toInt (by omega)]
      by_cases e : la j.toInt.toNat = -1
      · have hl : ¬ (-4 : Int32) = lane := fun z => by rw [← z] at hc; exact absurd hc.1 (by decide)
        rw [if_pos e, if_pos e, if_neg hl, if_pos rfl]
      · rw [if_neg e, if_neg e]
        by_cases e2 : la j.toInt.toNat = lane
        · rw [if_pos e2, if_pos e2]
          exact scn_cong (by omega) (fun q hq => by rw [c4 q hq, g4 q hq]) _ _ _
        · have e3 := la4 g1
          rw [if_neg e] at e3
          rw [if_neg e2, if_neg e2, if_neg (fun z => e (e3.mp z))]
    · rw [if_neg hc, if_neg (fun z => hc z.2.2)]
  · rw [h2 hb, h3, if_neg (fun z => hb ⟨z.1, z.2.1.1, by omega⟩)]
theorem e_count {w r r2 : Int32} (hCI : CI X I a nb T tl tb ft la szz ce) (hRI : RI Im am nb T tl tb ft la szz ce) (h1 : r = if w = 0 then nI nb else if w = 1 then (if la 0 = -1 then -4 else nI (szz 0)) else if w = 2 then nI tl else if w = 3 then (if nb = 0 then -4 else nI (T (nb - 1)).1) else -1) (h3 : r2 = if w = 0 then Im 0 else if w = 1 then (if am 43 0 = -4 then -4 else am 44 0) else if w = 2 then Im 6 else if w = 3 then (if Im 0 = 0 then -4 else am 1 (nb - 1)) else -1) : r = r2 := by
  obtain ⟨g1, g2, g3, g4⟩ := hRI.2.2.2.2 0 (by decide)
  have e3 := la4 g1
  rw [← g2] at e3
  have e4 : (Im 0 = 0) ↔ nb = 0 := by
    rw [hRI.1]
    have h8 := hCI.1.2.2.1
    have := @ti (nI nb) 0 (by decide)
    rw [nI_toInt (by omega)] at this
    exact this.trans (by omega)
  rw [h1, h3, hRI.2.2.1.1, g3]
  simp only [e3, e4]
  rw [hRI.1]
  by_cases h0 : nb = 0
  · rw [if_pos h0, if_pos h0]
  · rw [if_neg h0, if_neg h0, (hRI.2.1 (nb - 1) (by omega)).1]
theorem CI_sh {la' : Nat → Int32} {szz' : Nat → Nat} {ce' : Nat → Nat → Int32} (h : CI X I a nb T tl tb ft la szz ce) (hI : ∀ k, (k < 100 ∨ 180 ≤ k) → I' k = I k) (ha : ∀ k, (k < 10 ∨ 18 ≤ k) → a' k = a k) (hs : CSh I' a' la' szz' ce') : CI X I' a' nb T tl tb ft la' szz' ce' := by
  obtain ⟨⟨h1, h2, h3, h4, h5⟩, h6, h7, h8, h9⟩ := h
  refine ⟨⟨by rw [hI 3 (by omega)]; exact h1, h2, h3, h4, fun c hc => CBd_cong (fun j hj => hI _ (by omega)) (ha _ (by omega)) (ha _ (by omega)) (h5 c hc)⟩, ⟨?_, ?_⟩, ?_, by rw [hI 4 (by omega)]; exact h8, hs⟩
  · rw [hI 51 (by omega), hI 54 (by omega), hI 55 (by omega)]; exact h6.1
  · rw [ha 7 (by omega)]; exact h6.2
  · unfold CTp
    rw [hI 11 (by omega), ha 2 (by omega)]
    exact h7
theorem CI_tp {tl' : Nat} {tb' : Nat → Nat} (h : CI X I a nb T tl tb ft la szz ce) (hI : ∀ k, k ≠ 11 → I' k = I k) (ha : ∀ k, k ≠ 2 → a' k = a k) (hs : CTp I' a' tl' tb') : CI X I' a' nb T tl' tb' ft la szz ce := by
  obtain ⟨⟨h1, h2, h3, h4, h5⟩, h6, h7, h8, h9⟩ := h
  refine ⟨⟨by rw [hI 3 (by omega)]; exact h1, h2, h3, h4, fun c hc => CBd_cong (fun j hj => hI _ (by omega)) (ha _ (by omega)) (ha _ (by omega)) (h5 c hc)⟩, ⟨?_, ?_⟩, hs, by rw [hI 4 (by omega)]; exact h8, fun j hj => ?_⟩
  · rw [hI 51 (by omega), hI 54 (by omega), hI 55 (by omega)]; exact h6.1
  · rw [ha 7 (by omega)]; exact h6.2
  · rw [hI _ (by omega), hI _ (by omega), ha _ (by omega)]
    exact h9 j hj
theorem e_sheet {j lane n r r2 : Int32} {Jm Jm' : Nat → Int64} {gz gz' : Nat → Nat → Int64} (hCI : CI X I a nb T tl tb ft la szz ce) (hRI : RI Im am nb T tl tb ft la szz ce) (h1 : if 0 ≤ j.toInt ∧ j.toInt < 4 then (if (0 ≤ lane.toInt ∧ lane.toInt ≤ 2) ∧ n.toInt ≤ 64 then (if n.toInt < 0 then r = -14 ∧ (I', a') = (I, a) else r = 1 ∧ (I', a') = (upd (upd I (10 * (10 + 2 * j.toInt.toNat) + 1) lane) (10 * (10 + 2 * j.toInt.toNat) + 2) n, va_up a (10 + 2 * j.toInt.toNat + 1) (zr (a (10 + 2 * j.toInt.toNat + 1)) 0 64))) else r = -1 ∧ (I', a') = (I, a)) else r = -1 ∧ (I', a') = (I, a)) (h3 : if (0 ≤ j.toInt ∧ j.toInt ≤ 3) ∧ (0 ≤ lane.toInt ∧ lane.toInt ≤ 2) ∧ n.toInt ≤ 64 then (if n.toInt < 0 then r2 = -14 ∧ (Im', Jm', am', gz') = (Im, Jm, am, gz) else r2 = 1 ∧ (Im', Jm', am', gz') = (Im, Jm, shA am j lane n, gz)) else r2 = -1 ∧ (Im', Jm', am', gz') = (Im, Jm, am, gz)) : r = r2 ∧ LI X I' a' Im' am' := by
  by_cases hj : 0 ≤ j.toInt ∧ j.toInt < 4
  · rw [if_pos hj] at h1
    by_cases hl : (0 ≤ lane.toInt ∧ lane.toInt ≤ 2) ∧ n.toInt ≤ 64
    · rw [if_pos hl] at h1
      rw [if_pos ⟨⟨hj.1, by omega⟩, hl⟩] at h3
      by_cases hn : n.toInt < 0
      · rw [if_pos hn] at h1 h3
        obtain ⟨e1, e2⟩ := h1; obtain ⟨e3, e4⟩ := h3
        cases e2; cases e4
        exact ⟨e1.trans e3.symm, nb, T, tl, tb, ft, la, szz, ce, hCI, hRI⟩
      · rw [if_neg hn] at h1 h3
        obtain ⟨e1, e2⟩ := h1; obtain ⟨e3, e4⟩ := h3
        cases e2; cases e4
        refine ⟨e1.trans e3.symm, nb, T, tl, tb, ft, (fun q => if q = j.toInt.toNat then lane else la q), (fun q => if q = j.toInt.toNat then n.toInt.toNat else szz q), (fun q i => if q = j.toInt.toNat then 0 else ce q i), CI_sh hCI (fun k hk => by rw [pk_un (by omega), pk_un (by omega)]) (fun k hk => va_up_ne _ _ (by omega)) (fun q hq => ?_), hRI.1, fun b hb => BDT_of (hRI.2.1 b hb) rfl rfl rfl rfl, hRI.2.2.1, hRI.2.2.2.1, fun q hq => ?_⟩
        · obtain ⟨c1, ⟨c2, c3⟩, c4⟩ := hCI.2.2.2.2 q hq
          by_cases e : q = j.toInt.toNat
          · subst e
            rw [if_pos rfl, if_pos rfl, pk_un (by omega), pk_us, pk_us, va_up_self]
            refine ⟨rfl, ⟨nI_ofI rfl (by omega), by omega⟩, fun i hi => ?_⟩
            unfold zr
            rw [if_pos (by omega), if_pos rfl]
          · rw [if_neg e, if_neg e, pk_un (by omega), pk_un (by omega), pk_un (by omega), pk_un (by omega), va_up_ne _ _ (by omega)]
            refine ⟨c1, ⟨c2, c3⟩, fun i hi => ?_⟩
            rw [if_neg e]
            exact c4 i hi
        · obtain ⟨g1, g2, g3, g4⟩ := hRI.2.2.2.2 q hq
          have z43 : shA am j lane n 43 = upd (am 43) j.toInt.toNat lane := rfl
          have z44 : shA am j lane n 44 = upd (am 44) j.toInt.toNat n := rfl
          have z45 : shA am j lane n 45 = zr (am 45) (64 * j.toInt.toNat) 64 := rfl
          rw [z43, z44, z45]
          dsimp only
          by_cases e : q = j.toInt.toNat
          · subst e
            have hl1 : ¬ lane = -1 := fun z => by rw [z] at hl; exact absurd hl.1 (by decide)
            simp only [↓reduceIte, pk_us, if_neg hl1]
            refine ⟨Or.inr hl.1, trivial, nI_ofI rfl (by omega), fun i hi => ?_⟩
            unfold zr
            rw [if_pos (by omega)]
          · simp only [if_neg e, pk_un e]
            refine ⟨g1, g2, g3, fun i hi => ?_⟩
            unfold zr
            rw [if_neg (by omega)]
            exact g4 i hi
    · rw [if_neg hl] at h1
      rw [if_neg (fun z => hl z.2)] at h3
      obtain ⟨e1, e2⟩ := h1; obtain ⟨e3, e4⟩ := h3
      cases e2; cases e4
      exact ⟨e1.trans e3.symm, nb, T, tl, tb, ft, la, szz, ce, hCI, hRI⟩
  · rw [if_neg hj] at h1
    rw [if_neg (fun z => hj ⟨z.1.1, by omega⟩)] at h3
    obtain ⟨e1, e2⟩ := h1; obtain ⟨e3, e4⟩ := h3
    cases e2; cases e4
    exact ⟨e1.trans e3.symm, nb, T, tl, tb, ft, la, szz, ce, hCI, hRI⟩
theorem e_lay {j i v r r2 : Int32} {Jm Jm' : Nat → Int64} {gz gz' : Nat → Nat → Int64} (hCI : CI X I a nb T tl tb ft la szz ce) (hRI : RI Im am nb T tl tb ft la szz ce) (h1 : if 0 ≤ j.toInt ∧ j.toInt < 4 then (if la j.toInt.toNat = -1 then r = -11 ∧ (I', a') = (I, a) else if 0 ≤ i.toInt ∧ i.toInt < (szz j.toInt.toNat : Int) then r = 1 ∧ (I', a') = (I, va_up a (10 + 2 * j.toInt.toNat + 1) (upd (a (10 + 2 * j.toInt.toNat + 1)) i.toInt.toNat (layC (la j.toInt.toNat) v))) else r = -12 ∧ (I', a') = (I, a)) else r = -1 ∧ (I', a') = (I, a)) (h3 : if (0 ≤ j.toInt ∧ j.toInt ≤ 3) then (if am 43 j.toInt.toNat = -4 then r2 = -11 ∧ (Im', Jm', am', gz') = (Im, Jm, am, gz) else if 0 ≤ i.toInt ∧ i.toInt < (am 44 j.toInt.toNat).toInt then r2 = 1 ∧ (Im', Jm', am', gz') = (Im, Jm, va_up am 45 (upd (am 45) (64 * j.toInt.toNat + i.toInt.toNat) (layV (am 43 j.toInt.toNat) v)), gz) else r2 = -12 ∧ (Im', Jm', am', gz') = (Im, Jm, am, gz)) else r2 = -1 ∧ (Im', Jm', am', gz') = (Im, Jm, am, gz)) : r = r2 ∧ LI X I' a' Im' am' := by
  by_cases hj : 0 ≤ j.toInt ∧ j.toInt < 4
  · rw [if_pos hj] at h1
    rw [if_pos ⟨hj.1, by omega⟩] at h3
    have hj4 : j.toInt.toNat < 4 := by omega
    obtain ⟨g1, g2, g3, g4⟩ := hRI.2.2.2.2 _ hj4
    obtain ⟨c1, ⟨c2, c3⟩, c4⟩ := hCI.2.2.2.2 _ hj4
    have e3 := la4 g1
    rw [← g2] at e3
    rw [g3, nI_toInt (by omega)] at h3
    by_cases e : la j.toInt.toNat = -1
    · rw [if_pos e] at h1
      rw [if_pos (e3.mpr e)] at h3
      obtain ⟨e1, e2⟩ := h1; obtain ⟨e3, e4⟩ := h3
      cases e2; cases e4
      exact ⟨e1.trans e3.symm, nb, T, tl, tb, ft, la, szz, ce, hCI, hRI⟩
    · rw [if_neg e] at h1
      rw [if_neg (fun z => e (e3.mp z))] at h3
      rw [if_neg e] at g2
      by_cases hi : 0 ≤ i.toInt ∧ i.toInt < (szz j.toInt.toNat : Int)
      · rw [if_pos hi] at h1 h3
        obtain ⟨e1, e2⟩ := h1; obtain ⟨e3, e4⟩ := h3
        cases e2; cases e4
        refine ⟨e1.trans e3.symm, nb, T, tl, tb, ft, la, szz, (fun q k => if q = j.toInt.toNat ∧ k = i.toInt.toNat then layC (la j.toInt.toNat) v else ce q k), CI_sh hCI (fun k hk => rfl) (fun k hk => va_up_ne _ _ (by omega)) (fun q hq => ?_), hRI.1, fun b hb => BDT_of (hRI.2.1 b hb) rfl rfl rfl rfl, hRI.2.2.1, hRI.2.2.2.1, fun q hq => ?_⟩
        · obtain ⟨d1, ⟨d2, d3⟩, d4⟩ := hCI.2.2.2.2 q hq
          refine ⟨d1, ⟨d2, d3⟩, fun k hk => ?_⟩
          by_cases e : q = j.toInt.toNat
          · subst e
            rw [va_up_self]
            by_cases ek : k = i.toInt.toNat
            · subst ek
              rw [pk_us, if_pos ⟨rfl, rfl⟩]
            · rw [pk_un ek, if_neg (fun z => ek z.2)]
              exact d4 k hk
          · rw [va_up_ne _ _ (by omega), if_neg (fun z => e z.1)]
            exact d4 k hk
        · obtain ⟨d1, d2, d3, d4⟩ := hRI.2.2.2.2 q hq
          refine ⟨d1, d2, d3, fun k hk => ?_⟩
          rw [va_up_self]
          dsimp only
          by_cases e : q = j.toInt.toNat ∧ k = i.toInt.toNat
          · rw [if_pos e, e.1, e.2, pk_us, lay_eq, g2]
          · rw [if_neg e, pk_un (by omega)]
            exact d4 k hk
      · rw [if_neg hi] at h1 h3
        obtain ⟨e1, e2⟩ := h1; obtain ⟨e3, e4⟩ := h3
        cases e2; cases e4
        exact ⟨e1.trans e3.symm, nb, T, tl, tb, ft, la, szz, ce, hCI, hRI⟩
  · rw [if_neg hj] at h1
    rw [if_neg (fun z => hj ⟨z.1, by omega⟩)] at h3
    obtain ⟨e1, e2⟩ := h1; obtain ⟨e3, e4⟩ := h3
    cases e2; cases e4
    exact ⟨e1.trans e3.symm, nb, T, tl, tb, ft, la, szz, ce, hCI, hRI⟩
theorem e_feed {v : Int64} {r r2 : Int32} {Jm Jm' : Nat → Int64} {gz gz' : Nat → Nat → Int64} (hCI : CI X I a nb T tl tb ft la szz ce) (hRI : RI Im am nb T tl tb ft la szz ce) (h1 : if 160 < tl + 8 then r = -3 ∧ (I', a') = (I, a) else r = nI (tl + 8) ∧ (I', a') = (upd I 11 (nI (tl + 8)), va_up a 2 (pt (a 2) (bsg v) tl 8))) (h3 : if 160 < tl + 8 then r2 = -3 ∧ (Im', Jm', am', gz') = (Im, Jm, am, gz) else r2 = nI (tl + 8) ∧ (Im', Jm', am', gz') = (upd Im 6 (nI (tl + 8)), Jm, va_up am 5 (pt (am 5) (by8 v) tl 8), gz)) : r = r2 ∧ LI X I' a' Im' am' := by
  by_cases ht : 160 < tl + 8
  · rw [if_pos ht] at h1 h3
    obtain ⟨e1, e2⟩ := h1; obtain ⟨e3, e4⟩ := h3
    cases e2; cases e4
    exact ⟨e1.trans e3.symm, nb, T, tl, tb, ft, la, szz, ce, hCI, hRI⟩
  · rw [if_neg ht] at h1 h3
    obtain ⟨e1, e2⟩ := h1; obtain ⟨e3, e4⟩ := h3
    cases e2; cases e4
    have hx : ∀ i, ∃ n : Nat, n < 256 ∧ by8 v i = nI n := fun i => and255 _
    refine ⟨e1.trans e3.symm, nb, T, tl + 8, (fun q => if q < tl then tb q else (hx (q - tl)).choose), ft, la, szz, ce, CI_tp hCI (fun k hk => pk_un hk) (fun k hk => va_up_ne _ _ hk) ⟨pk_us, by omega, fun q hq => ?_⟩, ?_, fun b hb => BDT_of (hRI.2.1 b hb) rfl rfl rfl rfl, ⟨pk_us, by omega, fun q hq => ?_⟩, ?_, hRI.2.2.2.2⟩
    · rw [va_up_self]
      unfold pt
      dsimp only
      by_cases e : q < tl
      · rw [if_neg (by omega), if_pos e]
        exact hCI.2.2.1.2.2 q e
      · rw [if_pos (by omega), if_neg e, bs_by v _ (by omega)]
        exact ⟨(hx (q - tl)).choose_spec.2, (hx (q - tl)).choose_spec.1⟩
    · rw [pk_un (by decide)]; exact hRI.1
    · rw [va_up_self]
      unfold pt
      dsimp only
      by_cases e : q < tl
      · rw [if_neg (by omega), if_pos e]
        exact hRI.2.2.1.2.2 q e
      · rw [if_pos (by omega), if_neg e]
        exact ⟨(hx (q - tl)).choose_spec.2, (hx (q - tl)).choose_spec.1⟩
    · rw [pk_un (by decide)]; exact hRI.2.2.2.1
theorem e_end {n r r2 : Int32} {Jm Jm' : Nat → Int64} {gz gz' : Nat → Nat → Int64} (hCI : CI X I a nb T tl tb ft la szz ce) (hRI : RI Im am nb T tl tb ft la szz ce) (h1 : if 0 ≤ n.toInt ∧ n.toInt ≤ (I 11).toInt then r = I 11 ∧ (I', a') = (upd I 11 n, a) else r = -1 ∧ (I', a') = (I, a)) (h3 : r2 = (if 0 ≤ n.toInt ∧ n.toInt ≤ (Im 6).toInt then Im 6 else -1) ∧ (Im', Jm', am', gz') = ((if 0 ≤ n.toInt ∧ n.toInt ≤ (Im 6).toInt then upd Im 6 n else Im), Jm, am, gz)) : r = r2 ∧ LI X I' a' Im' am' := by
  have q1 : I 11 = nI tl := hCI.2.2.1.1
  have q2 : Im 6 = nI tl := hRI.2.2.1.1
  have q3 : tl ≤ 160 := hRI.2.2.1.2.1
  obtain ⟨e3, e4⟩ := h3
  rw [q2] at e3 e4
  rw [q1] at h1
  rw [nI_toInt (by omega)] at h1 e3 e4
  by_cases hn : 0 ≤ n.toInt ∧ n.toInt ≤ (tl : Int)
  · rw [if_pos hn] at h1 e3 e4
    obtain ⟨e1, e2⟩ := h1
    cases e2; cases e4
    refine ⟨e1.trans e3.symm, nb, T, n.toInt.toNat, tb, ft, la, szz, ce, CI_tp hCI (fun k hk => pk_un hk) (fun k hk => rfl) ⟨?_, by omega, fun q hq => hCI.2.2.1.2.2 q (by omega)⟩, ?_, hRI.2.1, ⟨?_, by omega, fun q hq => hRI.2.2.1.2.2 q (by omega)⟩, ?_, hRI.2.2.2.2⟩
    · rw [pk_us]; exact nI_ofI rfl hn.1
    · rw [pk_un (by decide)]; exact hRI.1
    · rw [pk_us]; exact nI_ofI rfl hn.1
    · rw [pk_un (by decide)]; exact hRI.2.2.2.1
  · rw [if_neg hn] at h1 e3 e4
    obtain ⟨e1, e2⟩ := h1
    cases e2; cases e4
    exact ⟨e1.trans e3.symm, nb, T, tl, tb, ft, la, szz, ce, hCI, hRI⟩
theorem e_drop {r r2 : Int32} {Jm Jm' : Nat → Int64} {gz gz' : Nat → Nat → Int64} (hCI : CI X I a nb T tl tb ft la szz ce) (hRI : RI Im am nb T tl tb ft la szz ce) (h1 : if nb = 0 then r = -4 ∧ (X', I', a') = (X, I, a) else r = nI (nb - 1) ∧ CI X' I' a' (nb - 1) T tl tb ft la szz ce) (h3 : r2 = (if Im 0 = 0 then -4 else Im 0 - 1) ∧ (Im', Jm', am', gz') = ((if Im 0 = 0 then Im else upd Im 0 (Im 0 - 1)), Jm, am, gz)) : r = r2 ∧ LI X' I' a' Im' am' := by
  have h8 := hCI.1.2.2.1
  have e4 : (Im 0 = 0) ↔ nb = 0 := by
    rw [hRI.1]
    have := @ti (nI nb) 0 (by decide)
    rw [nI_toInt (by omega)] at this
    exact this.trans (by omega)
  obtain ⟨f3, f4⟩ := h3
  by_cases h0 : nb = 0
  · rw [if_pos h0] at h1
    rw [if_pos (e4.mpr h0)] at f3 f4
    obtain ⟨e1, e2⟩ := h1
    cases e2; cases f4
    exact ⟨e1.trans f3.symm, nb, T, tl, tb, ft, la, szz, ce, hCI, hRI⟩
  · have hne : ¬ Im 0 = 0 := fun z => h0 (e4.mp z)
    rw [if_neg h0] at h1
    rw [if_neg hne] at f3 f4
    have e5 := nb_pred hRI.1 h8 hne
    rw [e5] at f3 f4
    obtain ⟨e1, e2⟩ := h1
    cases f4
    refine ⟨e1.trans f3.symm, nb - 1, T, tl, tb, ft, la, szz, ce, e2, pk_us, fun b hb => hRI.2.1 b (by omega), ?_, ?_, hRI.2.2.2.2⟩
    · refine ⟨?_, hRI.2.2.1.2⟩
      rw [pk_un (by decide)]; exact hRI.2.2.1.1
    · rw [pk_un (by decide)]; exact hRI.2.2.2.1
theorem nOf6 (k : Nat) (h : k ≤ 9) : nOf k ≤ 6 := by
  rcases (show k = 0 ∨ k = 1 ∨ k = 2 ∨ k = 3 ∨ k = 4 ∨ k = 5 ∨ k = 6 ∨ k = 7 ∨ k = 8 ∨ k = 9 by omega) with e | e | e | e | e | e | e | e | e | e <;> subst e <;> decide
theorem BDT_fr {b c : Nat} {t : TX} (h : BDT am c t) (hf : FR am am' b) (hc : c < b) : BDT am' c t := by
  obtain ⟨h1, h2, h3, h4, h5, h6, h7⟩ := h
  obtain ⟨f1, f2, f3, f4⟩ := hf
  refine ⟨by rw [f2 c hc]; exact h1, h2, h3, fun k hk => ?_, fun k h0 hk => ?_, fun k hk i hi => ?_, h7⟩
  · rw [(f3 _ (by omega)).1]; exact h4 k hk
  · rw [(f3 _ (by omega)).2]; exact h5 k h0 hk
  · have q := nOf6 _ (h4 k hk).2
    rw [f4 _ (by omega)]; exact h6 k hk i hi
theorem e_body {r r2 : Int32} {Jm Jm' : Nat → Int64} {gz gz' : Nat → Nat → Int64} (hCI : CI X I a nb T tl tb ft la szz ce) (hRI : RI Im am nb T tl tb ft la szz ce) (h1 : if nb < 8 then (∀ f, prW tl tb = .inl f → r = iI (-10 - (f.2 : Int)) ∧ CI X' I' a' nb T 0 tb (nI f.1) la szz ce) ∧ (∀ s1, prW tl tb = .inr s1 → r = nI nb ∧ CI X' I' a' (nb + 1) (fun b => if b = nb then txt s1 else T b) 0 tb 0 la szz ce) else r = -3 ∧ (X', I', a') = (X, I, a)) (h3 : Jm' = Jm ∧ gz' = gz ∧ if nb < 8 then bodyQ tl tb nb Im am r2 Im' am' else (r2 = -3 ∧ Im' = Im ∧ am' = am)) : r = r2 ∧ LI X' I' a' Im' am' := by
  obtain ⟨_, _, h3⟩ := h3
  by_cases h8 : nb < 8
  · rw [if_pos h8] at h1 h3
    obtain ⟨b1, b2, b3, b4, b5⟩ := h3
    have hsh : ∀ j, j < 4 → (la j = -1 ∨ (0 ≤ (la j).toInt ∧ (la j).toInt ≤ 2)) ∧ am' 43 j = (if la j = -1 then -4 else la j) ∧ am' 44 j = nI (szz j) ∧ ∀ i, i < 64 → am' 45 (64 * j + i) = ce j i := fun j hj => by
      rw [b2.1 43 (by decide) (by decide) (by decide), b2.1 44 (by decide) (by decide) (by decide), b2.1 45 (by decide) (by decide) (by decide)]
      exact hRI.2.2.2.2 j hj
    rcases hq : prW tl tb with f | s1
    · obtain ⟨e1, e2⟩ := h1.1 f hq
      obtain ⟨e3, e4, e5⟩ := b4 f hq
      exact ⟨e1.trans e3.symm, nb, T, 0, tb, nI f.1, la, szz, ce, e2, e5, fun b hb => BDT_fr (hRI.2.1 b hb) b2 hb, ⟨b3, by omega, fun j hj => absurd hj (by omega)⟩, e4, hsh⟩
    · obtain ⟨e1, e2⟩ := h1.2 s1 hq
      obtain ⟨e3, e4, e5, e6⟩ := b5 s1 hq
      refine ⟨e1.trans e3.symm, nb + 1, _, 0, tb, 0, la, szz, ce, e2, e5, fun b hb => ?_, ⟨b3, by omega, fun j hj => absurd hj (by omega)⟩, e4, hsh⟩
      by_cases e : b = nb
      · show BDT am' b (if b = nb then txt s1 else T b)
        rw [if_pos e, e]; exact e6
      · show BDT am' b (if b = nb then txt s1 else T b)
        rw [if_neg e]
        exact BDT_fr (hRI.2.1 b (by omega)) b2 (by omega)
  · rw [if_neg h8] at h1 h3
    obtain ⟨e1, e2⟩ := h1
    obtain ⟨e3, e4, e5⟩ := h3
    cases e2; subst e4; subst e5
    exact ⟨e1.trans e3.symm, nb, T, tl, tb, ft, la, szz, ce, hCI, hRI⟩
end EQ6
