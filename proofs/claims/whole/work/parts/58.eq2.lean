/-! pure: what the class's methods tell of points is what the reference's tell -/
theorem VF_vw {t : TX} (h : ∀ B, evF t.2.1 t.2.2.1 10 0 B = spT t B) : VF t = vw t := by
  funext k
  unfold VF vwF vw vl
  rw [h]
theorem cn_sm1 {p : Nat → Bool} : ∀ n, cn p n = sm (fun k => if p k = true then 1 else 0) n
  | 0 => rfl
  | n + 1 => by
    show cn p n + _ = sm _ n + _
    rw [cn_sm1 n]
theorem cn_split {p : Nat → Bool} (m n : Nat) : cn p (m + n) = cn p m + cn (fun j => p (m + j)) n := by
  rw [cn_sm1, cn_sm1, cn_sm1, sm_add]
section EQ2
variable {V V2 : Nat → Bool}
theorem way_eq {E : Int → Int → Int32} (w : Nat) (h : ∀ n, n < 3375 → bt (E (spY (n / 15)) (spZ (n / 15))) (n % 15 + 1) = hs V n w) : sm (fun k => sm (fun j => cn (bt (rwA (rwI V) ((↑j : Int) - 7) ((↑k : Int) - 7) &&& (E ((↑j : Int) - 7) ((↑k : Int) - 7) ^^^ (-1)))) 16) 15) 15 = cn (fun k => V k && !hs V k w) 3375 := by
  rw [two_cn (E := fun y z => rwA (rwI V) y z &&& (E y z ^^^ (-1))) (fun q hq => B15_and (B15_H hq))]
  refine cn_cong (fun n hn => ?_)
  rw [b_and, b_H hn, b_not _ (by omega), h n hn]
theorem sq_eq : sm (sqT (rwI V)) 15 = cn (fun i => V (i / 6) && !hs V (i / 6) (i % 6)) 20250 := by
  have h := cn_sm (P := fun i => V (i / 6) && !hs V (i / 6) (i % 6)) (w := 6) 3375
  rw [show 6 * 3375 = 20250 from rfl] at h
  rw [h]
  have e : sm (fun q => cn (fun j => V ((6 * q + j) / 6) && !hs V ((6 * q + j) / 6) ((6 * q + j) % 6)) 6) 3375 = sm (fun q => (if (V q && !hs V q 0) = true then 1 else 0) + (if (V q && !hs V q 1) = true then 1 else 0) + ((if (V q && !hs V q 2) = true then 1 else 0) + (if (V q && !hs V q 3) = true then 1 else 0)) + ((if (V q && !hs V q 4) = true then 1 else 0) + (if (V q && !hs V q 5) = true then 1 else 0))) 3375 := by
    refine sm_cong (fun q hq => ?_)
    rw [cn_cong (q := fun j => V q && !hs V q j) (fun j hj => by rw [show (6 * q + j) / 6 = q by omega, show (6 * q + j) % 6 = j by omega])]
    show 0 + (if (V q && !hs V q 0) = true then 1 else 0) + (if (V q && !hs V q 1) = true then 1 else 0) + (if (V q && !hs V q 2) = true then 1 else 0) + (if (V q && !hs V q 3) = true then 1 else 0) + (if (V q && !hs V q 4) = true then 1 else 0) + (if (V q && !hs V q 5) = true then 1 else 0) = _
    omega
  rw [e]
  simp only [sm_plus]
  simp only [← cn_sm1]
  rw [← way_eq (V := V) (E := fun y z => rwA (rwI V) y z <<< ((1 : Int32) &&& 31)) 0 (fun n hn => b_xm hn), ← way_eq (V := V) (E := fun y z => rwA (rwI V) y z >>> ((1 : Int32) &&& 31)) 1 (fun n hn => b_xp hn), ← way_eq (V := V) (E := fun y z => rwA (rwI V) (y - 1) z) 2 (fun n hn => b_ym hn), ← way_eq (V := V) (E := fun y z => rwA (rwI V) (y + 1) z) 3 (fun n hn => b_yp hn), ← way_eq (V := V) (E := fun y z => rwA (rwI V) y (z - 1)) 4 (fun n hn => b_zm hn), ← way_eq (V := V) (E := fun y z => rwA (rwI V) y (z + 1)) 5 (fun n hn => b_zp hn)]
  have el : sm (sqT (rwI V)) 15 = sm (fun k => sm (fun j => olR (rwI V) ((↑k : Int) - 7) j + sqR (rwI V) ((↑k : Int) - 7) j) 15) 15 := sm_cong (fun k _ => (sm_plus 15).symm)
  rw [el]
  simp only [← sm_plus]
  rfl
theorem sl_cn {E : Int → Int32} {zz : Nat} (h : ∀ j : Nat, j < 15 → B15 (E ((↑j : Int) - 7))) : sm (fun j => cn (bt (E ((↑j : Int) - 7))) 16) 15 = cn (fun n => bt (E (spY ((225 * zz + n) / 15))) ((225 * zz + n) % 15 + 1)) 225 := by
  have e := cn_sm (P := fun n => bt (E (spY ((225 * zz + n) / 15))) ((225 * zz + n) % 15 + 1)) (w := 15) 15
  rw [show 15 * 15 = 225 from rfl] at e
  rw [e]
  refine sm_cong (fun j hj => ?_)
  rw [row_cn (h j hj)]
  refine cn_cong (fun i hi => ?_)
  show bt (E ((↑j : Int) - 7)) (i + 1) = bt (E (spY ((225 * zz + (15 * j + i)) / 15))) ((225 * zz + (15 * j + i)) % 15 + 1)
  rw [show (225 * zz + (15 * j + i)) % 15 = i by omega, show spY ((225 * zz + (15 * j + i)) / 15) = (↑j : Int) - 7 by unfold spY; omega]
theorem B15_z {j zz : Nat} (hj : j < 15) (hz : zz < 15) : B15 (rwA (rwI V) ((↑j : Int) - 7) ((↑zz : Int) - 7)) := by
  have := B15_H (V := V) (q := 15 * zz + j) (by omega)
  rw [show spY (15 * zz + j) = (↑j : Int) - 7 by unfold spY; omega, show spZ (15 * zz + j) = (↑zz : Int) - 7 by unfold spZ; omega] at this
  exact this
theorem zz_sp {zz n : Nat} (h : n < 225) : (↑zz : Int) - 7 = spZ ((225 * zz + n) / 15) := by unfold spZ; omega
theorem sl_eq {zz : Nat} (hz : zz < 15) : slS (rwI V) ((↑zz : Int) - 7) = cn (fun j => V (225 * zz + j)) 225 := by
  unfold slS
  rw [sl_cn (E := fun y => rwA (rwI V) y ((↑zz : Int) - 7)) (zz := zz) (fun j hj => B15_z hj hz)]
  refine cn_cong (fun n hn => ?_)
  show bt (rwA (rwI V) (spY ((225 * zz + n) / 15)) ((↑zz : Int) - 7)) ((225 * zz + n) % 15 + 1) = V (225 * zz + n)
  rw [zz_sp hn, b_H (by omega)]
theorem wz_eq {E : Int → Int → Int32} {zz : Nat} (hz : zz < 15) (w : Nat) (h : ∀ n, n < 3375 → bt (E (spY (n / 15)) (spZ (n / 15))) (n % 15 + 1) = hs V n w) : sm (fun j => cn (bt (rwA (rwI V) ((↑j : Int) - 7) ((↑zz : Int) - 7) &&& (E ((↑j : Int) - 7) ((↑zz : Int) - 7) ^^^ (-1)))) 16) 15 = cn (fun k => V (225 * zz + k) && !hs V (225 * zz + k) w) 225 := by
  rw [sl_cn (E := fun y => rwA (rwI V) y ((↑zz : Int) - 7) &&& (E y ((↑zz : Int) - 7) ^^^ (-1))) (zz := zz) (fun j hj => B15_and (B15_z hj hz))]
  refine cn_cong (fun n hn => ?_)
  show bt (rwA (rwI V) (spY ((225 * zz + n) / 15)) ((↑zz : Int) - 7) &&& (E (spY ((225 * zz + n) / 15)) ((↑zz : Int) - 7) ^^^ (-1))) ((225 * zz + n) % 15 + 1) = _
  rw [zz_sp hn, b_and, b_H (by omega), b_not _ (by omega), h _ (by omega)]
theorem ol_eq {zz : Nat} (hz : zz < 15) : sm (olR (rwI V) ((↑zz : Int) - 7)) 15 = cn (fun n => V (225 * zz + n / 4) && !hs V (225 * zz + n / 4) (n % 4)) 900 := by
  have h := cn_sm (P := fun n => V (225 * zz + n / 4) && !hs V (225 * zz + n / 4) (n % 4)) (w := 4) 225
  rw [show 4 * 225 = 900 from rfl] at h
  rw [h]
  have e : sm (fun q => cn (fun j => V (225 * zz + (4 * q + j) / 4) && !hs V (225 * zz + (4 * q + j) / 4) ((4 * q + j) % 4)) 4) 225 = sm (fun q => (if (V (225 * zz + q) && !hs V (225 * zz + q) 0) = true then 1 else 0) + (if (V (225 * zz + q) && !hs V (225 * zz + q) 1) = true then 1 else 0) + ((if (V (225 * zz + q) && !hs V (225 * zz + q) 2) = true then 1 else 0) + (if (V (225 * zz + q) && !hs V (225 * zz + q) 3) = true then 1 else 0))) 225 := by
    refine sm_cong (fun q hq => ?_)
    rw [cn_cong (q := fun j => V (225 * zz + q) && !hs V (225 * zz + q) j) (fun j hj => by rw [show (4 * q + j) / 4 = q by omega, show (4 * q + j) % 4 = j by omega])]
    show 0 + (if (V (225 * zz + q) && !hs V (225 * zz + q) 0) = true then 1 else 0) + (if (V (225 * zz + q) && !hs V (225 * zz + q) 1) = true then 1 else 0) + (if (V (225 * zz + q) && !hs V (225 * zz + q) 2) = true then 1 else 0) + (if (V (225 * zz + q) && !hs V (225 * zz + q) 3) = true then 1 else 0) = _
    omega
  rw [e]
  simp only [sm_plus]
  rw [← cn_sm1 (p := fun q => V (225 * zz + q) && !hs V (225 * zz + q) 0), ← cn_sm1 (p := fun q => V (225 * zz + q) && !hs V (225 * zz + q) 1), ← cn_sm1 (p := fun q => V (225 * zz + q) && !hs V (225 * zz + q) 2), ← cn_sm1 (p := fun q => V (225 * zz + q) && !hs V (225 * zz + q) 3)]
  rw [← wz_eq (V := V) (E := fun y z => rwA (rwI V) y z <<< ((1 : Int32) &&& 31)) hz 0 (fun n hn => b_xm hn), ← wz_eq (V := V) (E := fun y z => rwA (rwI V) y z >>> ((1 : Int32) &&& 31)) hz 1 (fun n hn => b_xp hn), ← wz_eq (V := V) (E := fun y z => rwA (rwI V) (y - 1) z) hz 2 (fun n hn => b_ym hn), ← wz_eq (V := V) (E := fun y z => rwA (rwI V) (y + 1) z) hz 3 (fun n hn => b_yp hn)]
  simp only [← sm_plus]
  rfl
/-- pieces -/
theorem cS_hng {i k : Nat} (h : V i = true) : cS V i k ↔ hng 6 V i k := by
  unfold hng
  show clo 6 (fun y => V y = true) i k ↔ clo 6 (fun y => V y = V i) i k
  rw [h]
theorem plS_plv {k : Nat} (hk : k < 3375) : plS V k = plv V k := by
  unfold plS plv lst
  cases hv : V k
  · rfl
  · rw [Bool.true_and, Bool.true_and]
    refine congrArg cB (propext ⟨fun h i hi hh => ?_, fun h i hi hv' hh => h i hi ((cS_hng hv').mp hh)⟩)
    have h3 := hng_in (by omega : i < 3375) hh
    rw [hv] at h3
    exact h i hi h3.2.symm ((cS_hng h3.2.symm).mpr hh)
theorem hng_NV {w i k : Nat} : hng w (NV V) i k ↔ hng w V i k := by
  unfold hng NV
  have e : (fun y => (!V y) = (!V i)) = (fun y => V y = V i) := by
    funext y
    cases V y <;> cases V i <;> simp
  rw [e]
theorem lst_NV {w k : Nat} : lst w (NV V) k = lst w V k := congrArg cB (propext ⟨fun h i hi hh => h i hi (hng_NV.mpr hh), fun h i hi hh => h i hi (hng_NV.mp hh)⟩)
theorem shS_sht {k : Nat} (hk : k < 3375) (h : NV V k = true) : shS (NV V) k = sht V k := by
  unfold shS sht
  refine congrArg cB (propext ⟨fun g j hj => ?_, fun g hx => ?_⟩)
  · have hj2 := hng_in hk hj
    cases z : isE j
    · rfl
    · exact absurd ⟨j, hj2.1, cB_t.mpr ((cS_hng h).mpr (hng_NV.mpr hj)), z⟩ g
  · obtain ⟨j, h1, h2, h3⟩ := hx
    rw [g j (hng_NV.mp ((cS_hng h).mp (cB_t.mp h2)))] at h3
    cases h3
theorem hl_eq {k : Nat} (hk : k < 3375) : (plS (NV V) k && shS (NV V) k) = hlv V k := by
  rw [plS_plv hk]
  unfold plv hlv
  rw [lst_NV]
  cases h : NV V k
  · have : (!V k) = false := h
    rw [this]
    rfl
  · rw [shS_sht hk h]
    have : (!V k) = true := h
    rw [this]
    rfl
theorem sz_eq {k : Nat} (h : V k = true) : szS V k = szp 6 V k := by
  unfold szS szp
  exact cn_cong (fun j _ => congrArg cB (propext (cS_hng h)))
theorem szN_eq {k : Nat} (h : NV V k = true) : szS (NV V) k = szp 6 V k := by
  unfold szS szp
  exact cn_cong (fun j _ => congrArg cB (propext ((cS_hng h).trans hng_NV)))
theorem gmx_c {p q : Nat → Bool} {f g : Nat → Nat} : ∀ {n : Nat}, (∀ k, k < n → p k = q k) → (∀ k, k < n → q k = true → f k = g k) → gmx p f n = gmx q g n
  | 0, _, _ => rfl
  | n + 1, h, h2 => by
    show (if p n = true then (if gmx p f n < f n then f n else gmx p f n) else gmx p f n) = (if q n = true then (if gmx q g n < g n then g n else gmx q g n) else gmx q g n)
    rw [gmx_c (fun k hk => h k (by omega)) (fun k hk => h2 k (by omega)), h n (by omega)]
    by_cases z : q n = true
    · rw [h2 n (by omega) z]
    · rw [if_neg z, if_neg z]
theorem smx_c {p q : Nat → Bool} {f g : Nat → Nat} : ∀ {n : Nat}, (∀ k, k < n → p k = q k) → (∀ k, k < n → q k = true → f k = g k) → smx p f n = smx q g n
  | 0, _, _ => rfl
  | n + 1, h, h2 => by
    show smx p f n + (if p n = true then f n else 0) = smx q g n + (if q n = true then g n else 0)
    rw [smx_c (fun k hk => h k (by omega)) (fun k hk => h2 k (by omega)), h n (by omega)]
    by_cases z : q n = true
    · rw [h2 n (by omega) z]
    · rw [if_neg z, if_neg z]
theorem plv_V {k : Nat} (h : plv V k = true) : V k = true := by
  unfold plv at h
  rw [Bool.and_eq_true] at h
  exact h.1
theorem hlv_V {k : Nat} (h : hlv V k = true) : NV V k = true := by
  unfold hlv at h
  rw [Bool.and_eq_true] at h
  exact h.1
theorem pa_eq (w : Int) : (if w = 0 then nI (cn (plS V) 3375) else if w = 1 then nI (cn (fun k => plS (NV V) k && shS (NV V) k) 3375) else if w = 2 then nI (gmx (plS V) (szS V) 3375) else nI (smx (fun k => plS (NV V) k && shS (NV V) k) (szS (NV V)) 3375)) = nI (ptsN V w) := by
  unfold ptsN
  rw [cn_cong (fun k hk => plS_plv (V := V) hk), cn_cong (fun k hk => hl_eq (V := V) hk), gmx_c (fun k hk => plS_plv (V := V) hk) (fun k hk h => sz_eq (plv_V h)), smx_c (fun k hk => hl_eq (V := V) hk) (fun k hk h => szN_eq (hlv_V h))]
  by_cases h0 : w = 0
  · rw [if_pos h0, if_pos h0]
  · rw [if_neg h0, if_neg h0]
    by_cases h1 : w = 1
    · rw [if_pos h1, if_pos h1]
    · rw [if_neg h1, if_neg h1]
      by_cases h2 : w = 2
      · rw [if_pos h2, if_pos h2]
      · rw [if_neg h2, if_neg h2]
theorem nix_ix {x y z : Int} (hx : -7 ≤ x ∧ x ≤ 7) (hy : -7 ≤ y ∧ y ≤ 7) (hz : -7 ≤ z ∧ z ≤ 7) : nix x y z = ixp x y z := by
  unfold nix ixp
  omega
theorem pn_eq {k f n : Nat} (hf : f < 3375) (h1 : plS V f = true) (h2 : cS V f k) (h3 : pnum V k n) : cn (plS V) f = n := by
  obtain ⟨i, hi, g1, g2, g3⟩ := h3
  rw [plS_plv hf] at h1
  have hv := plv_V h1
  have hl : lst 6 V f = true := by
    unfold plv at h1
    rw [Bool.and_eq_true] at h1
    exact h1.2
  have a1 : hng 6 V f k := (cS_hng hv).mp h2
  have a2 : hng 6 V f i := hng_tr hf a1 (hng_sy sd6 hi g2)
  have a3 : hng 6 V i f := hng_sy sd6 hf a2
  have e : f = i := by
    by_cases c1 : f < i
    · exact absurd a2 (cB_t.mp g1 f c1)
    · by_cases c2 : i < f
      · exact absurd a3 (cB_t.mp hl i c2)
      · omega
  rw [g3, ← e]
  exact cn_cong (fun k hk => plS_plv (by omega))
theorem zv_t {z : Int} {k : Nat} : ZV V z k = true ↔ V k = true ∧ (↑(k / 225) : Int) + (-7) = z := by
  unfold ZV
  rw [Bool.and_eq_true, decide_eq_true_iff]
theorem zc_1 {zz i k : Nat} (hi : i < 3375) (hz : i / 225 = zz) (hv : V i = true) (h : hng 4 V i k) : cS (ZV V ((↑zz : Int) - 7)) i k := by
  refine (h (fun q => cS (ZV V ((↑zz : Int) - 7)) i q ∧ q < 3375 ∧ q / 225 = zz) ⟨fun X h0 _ => h0, hi, hz⟩ (fun x w hx hw h1 h2 => ?_)).1
  obtain ⟨a1, a2, a3⟩ := hx
  have a4 := sl4 a3 hw h1
  refine ⟨clo_tr a1 (fun X h0 hs => hs x w h0 (by omega) h1 (zv_t.mpr ⟨?_, by omega⟩)), h1, a4⟩
  rw [h2, hv]
theorem zc_2 {zz i k : Nat} (hi : i < 3375) (hz : i / 225 = zz) (hv : V i = true) (h : cS (ZV V ((↑zz : Int) - 7)) i k) : hng 4 V i k := by
  refine (h (fun q => hng 4 V i q ∧ q < 3375 ∧ q / 225 = zz) ⟨fun X h0 _ => h0, hi, hz⟩ (fun x w hx hw h1 h2 => ?_)).1
  obtain ⟨a1, a2, a3⟩ := hx
  obtain ⟨b1, b2⟩ := zv_t.mp h2
  have hw4 : w < 4 := by
    rcases (show w < 4 ∨ w = 4 ∨ w = 5 by omega) with c | rfl | rfl
    · exact c
    · rw [sv4] at b2 h1
      split at b2
      · omega
      · rw [if_neg (by assumption)] at h1; omega
    · rw [sv5] at b2 h1
      split at b2
      · omega
      · rw [if_neg (by assumption)] at h1; omega
  exact ⟨clo_tr a1 (fun X h0 hs => hs x w h0 hw4 h1 (by rw [b1, hv])), h1, by omega⟩
theorem pc_eq {zz : Nat} (hz : zz < 15) : cn (plS (ZV V ((↑zz : Int) - 7))) 3375 = cn (fun j => V (225 * zz + j) && lst 4 V (225 * zz + j)) 225 := by
  have hout : ∀ k, ¬ k / 225 = zz → plS (ZV V ((↑zz : Int) - 7)) k = false := fun k hk => by
    unfold plS
    have : ZV V ((↑zz : Int) - 7) k = false := by
      unfold ZV
      rw [decide_eq_false (by omega), Bool.and_false]
    rw [this]
    rfl
  have e1 : cn (plS (ZV V ((↑zz : Int) - 7))) 3375 = cn (plS (ZV V ((↑zz : Int) - 7))) (225 * zz + 225) := by
    have := cn_skip (p := plS (ZV V ((↑zz : Int) - 7))) (c := 225 * zz + 225) (3375 - (225 * zz + 225)) (fun j h1 h2 => hout j (by omega))
    rw [show 225 * zz + 225 + (3375 - (225 * zz + 225)) = 3375 by omega] at this
    exact this
  have e2 : cn (plS (ZV V ((↑zz : Int) - 7))) (225 * zz) = 0 := by
    rw [cn_cong (q := fun _ => false) (fun k hk => hout k (by omega)), cn_zero]
  rw [e1, cn_split, e2, Nat.zero_add]
  refine cn_cong (fun j hj => ?_)
  show plS (ZV V ((↑zz : Int) - 7)) (225 * zz + j) = (V (225 * zz + j) && lst 4 V (225 * zz + j))
  unfold plS lst
  have ez : ZV V ((↑zz : Int) - 7) (225 * zz + j) = V (225 * zz + j) := by
    unfold ZV
    rw [decide_eq_true (by omega), Bool.and_true]
  rw [ez]
  cases hv : V (225 * zz + j)
  · rfl
  · rw [Bool.true_and, Bool.true_and]
    refine congrArg cB (propext ⟨fun h i hi hh => ?_, fun h i hi hzv hh => ?_⟩)
    · have h3 := hng_in (by omega : i < 3375) hh
      have h4 := hng4 hh
      rw [hv] at h3
      exact h i hi (zv_t.mpr ⟨h3.2.symm, by omega⟩) (zc_1 (by omega) (by omega) h3.2.symm hh)
    · obtain ⟨b1, b2⟩ := zv_t.mp hzv
      exact h i hi (zc_2 (by omega) (by omega) b1 hh)
/-- the point of a number -/
theorem cn_uq {p : Nat → Bool} {j k : Nat} (hj : p j = true) (hk : p k = true) (h : cn p j = cn p k) : j = k := by
  rcases (show j < k ∨ k < j ∨ j = k by omega) with c | c | c
  · have h1 := cn_mono (p := p) (show j + 1 ≤ k by omega)
    rw [cn_yes hj] at h1
    omega
  · have h1 := cn_mono (p := p) (show k + 1 ≤ j by omega)
    rw [cn_yes hk] at h1
    omega
  · exact c
theorem rC_cn : ∀ q, q ≤ 225 → sm (rC (rwI V)) q = cn V (15 * q) := fun q hq => by
  rw [cn_sm]
  refine sm_cong (fun j hj => ?_)
  unfold rC
  rw [row_cn B15_rwI]
  refine cn_cong (fun i hi => ?_)
  rw [bt_rwI (by omega), decide_eq_true (by omega), Bool.true_and]
  rfl
theorem pt_eq {i0 : Nat} {what r r2 : Int32} (h0 : 0 ≤ what.toInt) (h2 : what.toInt ≤ 2) (hc : ptR (rwI V) i0 what r) (hr : (∃ k, k < 3375 ∧ V k = true ∧ cn V k = i0 ∧ r2 = iI (if what.toInt = 0 then (↑(k % 15) : Int) - 7 else if what.toInt = 1 then (↑(k / 15 % 15) : Int) - 7 else (↑(k / 225) : Int) - 7)) ∨ (cn V 3375 ≤ i0 ∧ r2 = -100)) : r = r2 := by
  rcases hc with ⟨a1, a2⟩ | ⟨q, i, a1, a2, a3, a4, a5⟩
  · rw [rC_cn 225 (by omega), show 15 * 225 = 3375 from rfl] at a1
    rcases hr with ⟨k, b1, b2, b3, b4⟩ | ⟨b1, b2⟩
    · have h5 := cn_mono (p := V) (show k + 1 ≤ 3375 by omega)
      rw [cn_yes b2] at h5
      omega
    · rw [a2, b2]
  · have hi := B15_rwI i a3
    have hv : V (15 * q + (i - 1)) = true := by
      rw [bt_rwI (by omega), decide_eq_true hi, Bool.true_and] at a3
      exact a3
    have hcn : cn V (15 * q + (i - 1)) = i0 := by
      rw [cn_split, ← rC_cn q (by omega), ← a4]
      congr 1
      have e := cn_shift (p := bt (rwI V q)) (i - 1)
      rw [show i - 1 + 1 = i by omega, bt_rwI (by omega), decide_eq_false (by omega), Bool.false_and, if_neg (by decide), Nat.zero_add] at e
      rw [e]
      refine cn_cong (fun j hj => ?_)
      rw [bt_rwI (by omega), decide_eq_true (by omega), Bool.true_and]
      rfl
    rcases hr with ⟨k, b1, b2, b3, b4⟩ | ⟨b1, b2⟩
    · have e := cn_uq hv b2 (by rw [hcn, b3])
      have ew : what = iI what.toInt := iI_of what
      rw [a5, b4, ← e]
      by_cases c0 : what.toInt = 0
      · rw [if_pos c0, if_pos (by rw [ew, c0]; rfl)]
        congr 1
        omega
      · have n0 : ¬ what = 0 := fun h => c0 (by rw [h]; rfl)
        rw [if_neg c0, if_neg n0]
        by_cases c1 : what.toInt = 1
        · rw [if_pos c1, if_pos (by rw [ew, c1]; rfl)]
          congr 1
          omega
        · have n1 : ¬ what = 1 := fun h => c1 (by rw [h]; rfl)
          rw [if_neg c1, if_neg n1]
          congr 1
          omega
    · have h5 := cn_mono (p := V) (show 15 * q + (i - 1) + 1 ≤ 3375 by omega)
      rw [cn_yes hv] at h5
      omega
theorem bo1_eq : iI ((↑(siz (rwI V)) : Int) - (↑(boS V V2) : Int)) = nI (cn (fun k => V k && !V2 k) 3375) := by
  rw [siz_eq, bo_eq]
  have e := cn_cut (p := V) (q := V2) 3375
  have e2 : (↑(cn V 3375) : Int) - (↑(cn (fun k => V k && V2 k) 3375) : Int) = (↑(cn (fun k => V k && !V2 k) 3375) : Int) := by omega
  rw [e2]
  rfl
theorem bo2_cn : cn V2 3375 = boS V V2 + cn (fun k => !V k && V2 k) 3375 := by
  rw [bo_eq, cn_cut (p := V2) (q := V) 3375, cn_cong (p := fun k => V2 k && V k) (q := fun k => V k && V2 k) (fun k _ => Bool.and_comm _ _), cn_cong (p := fun k => V2 k && !V k) (q := fun k => !V k && V2 k) (fun k _ => Bool.and_comm _ _)]
theorem bo2_eq : iI ((↑(siz (rwI V2)) : Int) - (↑(boS V V2) : Int)) = nI (cn (fun k => !V k && V2 k) 3375) := by
  rw [siz_eq]
  have e := bo2_cn (V := V) (V2 := V2)
  have e2 : (↑(cn V2 3375) : Int) - (↑(boS V V2) : Int) = (↑(cn (fun k => !V k && V2 k) 3375) : Int) := by omega
  rw [e2]
  rfl
theorem bo3_eq : siz (rwI V2) = boS V V2 ↔ cn (fun k => !V k && V2 k) 3375 = 0 := by
  rw [siz_eq]
  have e := bo2_cn (V := V) (V2 := V2)
  omega
end EQ2
theorem st_cx {x u : Int} {j k : Nat} (h0 : -7 ≤ x ∧ x ≤ 7) (hu : -3 ≤ u ∧ u ≤ 3) (hj : -7 ≤ x + j * u ∧ x + j * u ≤ 7) (hk : k ≤ j) : -7 ≤ x + k * u ∧ x + k * u ≤ 7 := by
  rcases (show u = -3 ∨ u = -2 ∨ u = -1 ∨ u = 0 ∨ u = 1 ∨ u = 2 ∨ u = 3 by omega) with rfl | rfl | rfl | rfl | rfl | rfl | rfl <;> omega
theorem st_ct {x u : Int} {j : Nat} (h0 : -7 ≤ x ∧ x ≤ 7) (hu : -3 ≤ u ∧ u ≤ 3) (hn : ¬ u = 0) (hj : -7 ≤ x + j * u ∧ x + j * u ≤ 7) : j < 15 := by
  rcases (show u = -3 ∨ u = -2 ∨ u = -1 ∨ u = 1 ∨ u = 2 ∨ u = 3 by omega) with rfl | rfl | rfl | rfl | rfl | rfl <;> omega
theorem ry_eq {t : TX} {x y z u v w : Int} {r r2 : Int32} (hx : -7 ≤ x ∧ x ≤ 7) (hy : -7 ≤ y ∧ y ≤ 7) (hz : -7 ≤ z ∧ z ≤ 7) (hu : -3 ≤ u ∧ u ≤ 3) (hv : -3 ≤ v ∧ v ≤ 3) (hw : -3 ≤ w ∧ w ≤ 3) (hn : ¬ (u = 0 ∧ v = 0 ∧ w = 0)) (hc : RYc t x y z u v w r) (hr : RY t x y z u v w r2) : r = r2 := by
  obtain ⟨k, _, c2, c3⟩ := hc
  obtain ⟨k2, _, d2, d3⟩ := hr
  rcases d3 with ⟨i1, i2, i3⟩ | ⟨i1, i3⟩
  · have h15 : k2 < 15 := by
      unfold inS at i1
      by_cases a1 : u = 0
      · by_cases a2 : v = 0
        · by_cases a3 : w = 0
          · exact absurd ⟨a1, a2, a3⟩ hn
          · exact st_ct hz hw a3 ⟨i1.2.2.2.2.1, i1.2.2.2.2.2⟩
        · exact st_ct hy hv a2 ⟨i1.2.2.1, i1.2.2.2.1⟩
      · exact st_ct hx hu a1 ⟨i1.1, i1.2.1⟩
    rcases c3 with ⟨j1, j2, j3⟩ | ⟨j1, j3⟩
    · rcases (show k < k2 ∨ k2 < k ∨ k = k2 by omega) with c | c | c
      · exact absurd j2.2 (d2 k c).2
      · exact absurd ⟨i1, i2⟩ (c2 k2 c)
      · rw [j3, i3, c]
    · exact absurd ⟨i1, i2⟩ (c2 k2 (by omega))
  · rcases c3 with ⟨j1, j2, j3⟩ | ⟨j1, j3⟩
    · exfalso
      by_cases c : k < k2
      · exact (d2 k c).2 j2.2
      · have g := j2.1
        unfold inS at g i1
        have e1 := st_cx hx hu ⟨g.1, g.2.1⟩ (show k2 ≤ k by omega)
        have e2 := st_cx hy hv ⟨g.2.2.1, g.2.2.2.1⟩ (show k2 ≤ k by omega)
        have e3 := st_cx hz hw ⟨g.2.2.2.2.1, g.2.2.2.2.2⟩ (show k2 ≤ k by omega)
        exact i1 ⟨e1.1, e1.2, e2.1, e2.2, e3.1, e3.2⟩
    · rw [j3, i3]
