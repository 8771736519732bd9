/-! the reference: parts; layParts against the pieces -/
theorem clo_un2 {ways : Nat} {ok ok' : Nat → Prop} {R : Nat → Prop} {f : Nat} (hR0 : R f) (hR : ∀ x w, R x → w < ways → sdv x w < 3375 → R (sdv x w)) (h1 : ∀ y, R y → ok' y → ok y) (hof : ok f) (h2f : ok' f) (hcl : ∀ x w, R x → ok x → ok' x → w < ways → sdv x w < 3375 → ok (sdv x w) → ok' (sdv x w)) (q : Nat) : clo ways ok' f q ↔ clo ways ok f q := by
  constructor
  · intro h
    exact (h (fun q => R q ∧ clo ways ok f q) ⟨hR0, clo_0⟩ (fun x w hx hw a1 a2 => ⟨hR x w hx.1 hw a1, clo_s hx.2 hw a1 (h1 _ (hR x w hx.1 hw a1) a2)⟩)).2
  · intro h
    refine (h (fun q => (R q ∧ ok q ∧ ok' q) ∧ clo ways ok' f q) ⟨⟨hR0, hof, h2f⟩, clo_0⟩ (fun x w hx hw a1 a2 => ?_)).2
    have h3 := hcl x w hx.1.1 hx.1.2.1 hx.1.2.2 hw a1 a2
    exact ⟨⟨hR x w hx.1.1 hw a1, a2, h3⟩, clo_s hx.2 hw a1 h3⟩
theorem sp_set {ways first : Nat} {num : Int32} {P0 W PF RF : Nat → Int32} {Q : Nat → Nat} {m : Nat} (h : SPR ways first num P0 W PF RF Q m) (hc : SPC ways first P0 W Q m m 0) (j : Nat) : (∃ i, i < m ∧ Q i = j) ↔ clo ways (okp P0 W first) first j := by
  constructor
  · rintro ⟨i, hi, rfl⟩
    exact (h.2.1 i hi).2.2
  · intro h2
    refine h2 (fun j => ∃ i, i < m ∧ Q i = j) ⟨0, h.1, h.2.2.2.2.2⟩ (fun x w hx hw a1 a2 => ?_)
    obtain ⟨i, hi, rfl⟩ := hx
    exact hc i w (Or.inl ⟨hi, hw⟩) a1 a2
theorem bI_inj {a b : Bool} : bI (a = true) = bI (b = true) ↔ a = b := by cases a <;> cases b <;> decide
/-- a spread from an unmarked place marks just its piece -/
theorem sp_hng {ways first : Nat} {num : Int32} {P0 W PF RF : Nat → Int32} {Q : Nat → Nat} {m : Nat} {V : Nat → Bool} {R : Nat → Prop} (h : SPR ways first num P0 W PF RF Q m) (hc : SPC ways first P0 W Q m m 0) (hRl : ∀ x, R x → x < 3375) (hR0 : R first) (hR : ∀ x w, R x → w < ways → sdv x w < 3375 → R (sdv x w)) (hW : ∀ y, y < 3375 → W y = bI (V y = true)) (hk : P0 first = -4) (hcl : ∀ x w, R x → V x = V first → P0 x = -4 → w < ways → sdv x w < 3375 → V (sdv x w) = V first → P0 (sdv x w) = -4) (j : Nat) : (∃ i, i < m ∧ Q i = j) ↔ hng ways V first j := by
  rw [sp_set h hc j]
  have e : ∀ y, R y → (W y = W first ↔ V y = V first) := fun y hy => by rw [hW y (hRl y hy), hW first (hRl _ hR0)]; exact bI_inj
  exact clo_un2 (R := R) hR0 hR (fun y hy hh => (e y hy).mp hh.2) rfl ⟨hk, rfl⟩ (fun x w hx a1 a2 hw a3 a4 => ⟨hcl x w hx a1 a2.1 hw a3 a4, (e _ (hR x w hx hw a3)).mpr a4⟩) j
def MKI (V : Nat → Bool) (k : Nat) (PF : Nat → Int32) : Prop := ∀ j, j < 3375 → (¬ PF j = -4 ↔ ∃ i, i < k ∧ hng 6 V i j)
theorem sd6 : ∀ x w, x < 3375 → w < 6 → sdv x w < 3375 → ∃ w', w' < 6 ∧ sdv (sdv x w) w' = x := fun _ _ h1 h2 h3 => sd_sym h1 h2 h3
noncomputable def plv (V : Nat → Bool) (k : Nat) : Bool := V k && lst 6 V k
noncomputable def hlv (V : Nat → Bool) (k : Nat) : Bool := !V k && (lst 6 V k && sht V k)
def gmx (p : Nat → Bool) (f : Nat → Nat) : Nat → Nat
  | 0 => 0
  | n + 1 => if p n = true then (if gmx p f n < f n then f n else gmx p f n) else gmx p f n
def smx (p : Nat → Bool) (f : Nat → Nat) : Nat → Nat
  | 0 => 0
  | n + 1 => smx p f n + (if p n = true then f n else 0)
def anB (p : Nat → Bool) : Nat → Bool
  | 0 => false
  | n + 1 => anB p n || p n
theorem anB_t {p : Nat → Bool} : ∀ {n : Nat}, anB p n = true ↔ ∃ i, i < n ∧ p i = true
  | 0 => by
    constructor
    · intro h; unfold anB at h; cases h
    · rintro ⟨i, h, _⟩; omega
  | n + 1 => by
    show (anB p n || p n) = true ↔ _
    rw [Bool.or_eq_true, anB_t]
    constructor
    · rintro (⟨i, h1, h2⟩ | h)
      · exact ⟨i, by omega, h2⟩
      · exact ⟨n, by omega, h⟩
    · rintro ⟨i, h1, h2⟩
      by_cases e : i = n
      · subst e; exact Or.inr h2
      · exact Or.inl ⟨i, by omega, h2⟩
theorem gmx_le {p : Nat → Bool} {f : Nat → Nat} {B : Nat} (hf : ∀ k, f k ≤ B) : ∀ n, gmx p f n ≤ B
  | 0 => Nat.zero_le _
  | n + 1 => by
    have ih := gmx_le (p := p) hf n
    have := hf n
    unfold gmx
    split
    · split <;> omega
    · exact ih
theorem szp_le {ways : Nat} {V : Nat → Bool} (k : Nat) : szp ways V k ≤ 3375 := cn_le _ _
theorem MK_no {V : Nat → Bool} {k : Nat} {PF : Nat → Int32} (hk : k < 3375) (h : MKI V k PF) (hn : ¬ PF k = -4) : MKI V (k + 1) PF ∧ lst 6 V k = false := by
  obtain ⟨i, hi, hik⟩ := (h k hk).mp hn
  refine ⟨fun j hj => ?_, cB_f.mpr (fun z => z i hi hik)⟩
  rw [h j hj]
  constructor
  · rintro ⟨i, h1, h2⟩; exact ⟨i, by omega, h2⟩
  · rintro ⟨i', h1, h2⟩
    by_cases e : i' = k
    · subst e; exact ⟨i, hi, hng_tr (by omega) hik h2⟩
    · exact ⟨i', by omega, h2⟩
theorem MK_lst {V : Nat → Bool} {k : Nat} {PF : Nat → Int32} (hk : k < 3375) (h : MKI V k PF) (hn : PF k = -4) : lst 6 V k = true := cB_t.mpr (fun i hi hik => ((h k hk).mpr ⟨i, hi, hik⟩) hn)
theorem MK_cl {V : Nat → Bool} {k : Nat} {PF : Nat → Int32} (h : MKI V k PF) (hk : k < 3375) : ∀ x w, x < 3375 → V x = V k → PF x = -4 → w < 6 → sdv x w < 3375 → V (sdv x w) = V k → PF (sdv x w) = -4 := by
  intro x w hx h1 h2 hw h3 h4
  refine Classical.byContradiction fun z => ?_
  obtain ⟨i, hi, hij⟩ := (h _ h3).mp z
  have h5 : hng 6 V (sdv x w) x := by
    obtain ⟨w', hw', e⟩ := sd6 x w hx hw h3
    have s := clo_s (ways := 6) (ok := fun y => V y = V (sdv x w)) clo_0 hw' (by rw [e]; exact hx) (by rw [e, h1, h4])
    rw [e] at s
    exact s
  exact (h x hx).mpr ⟨i, hi, hng_tr (by omega) hij h5⟩ h2
theorem SP_at {ways first : Nat} {num : Int32} {P0 W PF RF : Nat → Int32} {Q : Nat → Nat} {m : Nat} {V : Nat → Bool} (h : SPR ways first num P0 W PF RF Q m) (hs : ∀ j, (∃ i, i < m ∧ Q i = j) ↔ hng ways V first j) : (∀ j, hng ways V first j → PF j = num) ∧ (∀ j, ¬ hng ways V first j → PF j = P0 j) := ⟨fun j hj => h.2.2.2.1 j ((hs j).mpr hj), fun j hj => h.2.2.2.2.1 j (fun z => hj ((hs j).mp z))⟩
theorem MK_yes {V : Nat → Bool} {k : Nat} {num : Int32} {P0 PF : Nat → Int32} (h : MKI V k P0) (hnum : ¬ num = -4) (hp : (∀ j, hng 6 V k j → PF j = num) ∧ (∀ j, ¬ hng 6 V k j → PF j = P0 j)) : MKI V (k + 1) PF := by
  intro j hj
  by_cases q : hng 6 V k j
  · rw [hp.1 j q]
    exact ⟨fun _ => ⟨k, by omega, q⟩, fun _ => hnum⟩
  · rw [hp.2 j q, h j hj]
    constructor
    · rintro ⟨i, h1, h2⟩; exact ⟨i, by omega, h2⟩
    · rintro ⟨i, h1, h2⟩
      by_cases e : i = k
      · subst e; exact absurd h2 q
      · exact ⟨i, by omega, h2⟩
def NMI (V : Nat → Bool) (k : Nat) (PF : Nat → Int32) : Prop := ∀ i j, i < k → V i = true → lst 6 V i = true → hng 6 V i j → PF j = nI (cn (plv V) i)
theorem NM_no {V : Nat → Bool} {k : Nat} {PF : Nat → Int32} (h : NMI V k PF) (hl : lst 6 V k = false) : NMI V (k + 1) PF := fun i j hi h1 h2 h3 => by
  by_cases e : i = k
  · subst e; rw [hl] at h2; cases h2
  · exact h i j (by omega) h1 h2 h3
theorem NM_yes {V : Nat → Bool} {k : Nat} {num : Int32} {P0 PF : Nat → Int32} (hk : k < 3375) (h : NMI V k P0) (hl : lst 6 V k = true) (hnum : V k = true → num = nI (cn (plv V) k)) (hp : (∀ j, hng 6 V k j → PF j = num) ∧ (∀ j, ¬ hng 6 V k j → PF j = P0 j)) : NMI V (k + 1) PF := fun i j hi h1 h2 h3 => by
  by_cases e : i = k
  · subst e; rw [hp.1 j h3]; exact hnum h1
  · rw [hp.2 j (fun z => cB_t.mp hl i (by omega) (hng_tr (by omega) h3 (hng_sy sd6 hk z)))]
    exact h i j (by omega) h1 h2 h3
theorem sz_of {ways first : Nat} {num : Int32} {P0 W PF RF : Nat → Int32} {Q : Nat → Nat} {m : Nat} {V : Nat → Bool} (h : SPR ways first num P0 W PF RF Q m) (hs : ∀ j, (∃ i, i < m ∧ Q i = j) ↔ hng ways V first j) : szp ways V first = m := cn_enum 3375 m Q _ (fun i hi => (h.2.1 i hi).1) h.2.2.1 (fun j => by rw [cB_t]; exact (hs j).symm)
theorem sht_of {V : Nat → Bool} {k m : Nat} {Q : Nat → Nat} (hs : ∀ j, (∃ i, i < m ∧ Q i = j) ↔ hng 6 V k j) : sht V k = !anB (fun i => isE (Q i)) m := by
  cases h : anB (fun i => isE (Q i)) m
  · refine cB_t.mpr (fun j hj => ?_)
    obtain ⟨i, hi, e⟩ := (hs j).mpr hj
    rw [← e]
    cases h2 : isE (Q i)
    · rfl
    · rw [anB_t.mpr ⟨i, hi, h2⟩] at h; cases h
  · obtain ⟨i, hi, h2⟩ := anB_t.mp h
    exact cB_f.mpr (fun z => by rw [z (Q i) ((hs _).mp ⟨i, hi, rfl⟩)] at h2; cases h2)
theorem or2 (x y : Bool) : bI ((x || y) = true) = nI (if x = true then 1 else if y = true then 1 else 0) := by cases x <;> cases y <;> decide
theorem plv_s {V : Nat → Bool} {k : Nat} (b : Bool) (h : lst 6 V k = b) : cn (plv V) (k + 1) = cn (plv V) k + (if V k = true then (if b = true then 1 else 0) else 0) := by
  show _ + (if plv V k = true then 1 else 0) = _
  unfold plv
  rw [h]
  cases V k <;> cases b <;> rfl
theorem hlv_s {V : Nat → Bool} {k : Nat} (b : Bool) (h : lst 6 V k = b) : cn (hlv V) (k + 1) = cn (hlv V) k + (if V k = true then 0 else (if b = true then (if sht V k = true then 1 else 0) else 0)) := by
  show _ + (if hlv V k = true then 1 else 0) = _
  unfold hlv
  rw [h]
  cases V k <;> cases b <;> cases sht V k <;> rfl
theorem gmx_s {V : Nat → Bool} {k : Nat} (b : Bool) (h : lst 6 V k = b) : gmx (plv V) (szp 6 V) (k + 1) = if V k = true then (if b = true then (if gmx (plv V) (szp 6 V) k < szp 6 V k then szp 6 V k else gmx (plv V) (szp 6 V) k) else gmx (plv V) (szp 6 V) k) else gmx (plv V) (szp 6 V) k := by
  show (if plv V k = true then _ else _) = _
  unfold plv
  rw [h]
  cases V k <;> cases b <;> rfl
theorem smx_s {V : Nat → Bool} {k : Nat} (b : Bool) (h : lst 6 V k = b) : smx (hlv V) (szp 6 V) (k + 1) = smx (hlv V) (szp 6 V) k + (if V k = true then 0 else (if b = true then (if sht V k = true then szp 6 V k else 0) else 0)) := by
  show _ + (if hlv V k = true then szp 6 V k else 0) = _
  unfold hlv
  rw [h]
  cases V k <;> cases b <;> cases sht V k <;> rfl
theorem nt_if {x : Bool} {c d : Nat} : (if (!x) = true then c else d) = if x = true then d else c := by cases x <;> rfl
theorem num_ne {n : Nat} (h : n ≤ 3375) : ¬ nI n = -4 := by
  intro e
  have := congrArg Int32.toInt e
  rw [nI_tI (by omega)] at this
  have e4 : (-4 : Int32).toInt = -4 := by decide
  omega
set_option maxHeartbeats 2000000 in
set_option maxRecDepth 100000 in
theorem c_Mo_layParts (l : Launch) (D : va_G) (cT : Nat → ClassId) (ad : Nat → Nat) (I : Nat → Int32) (J : Nat → Int64) (a : Nat → Nat → Int32) (g : Nat → Nat → Int64) (b : Nat) (t : TX) (hb8 : b < 8) (hT : BDT a b t) : MMv l D cT ad y_Mo_layParts b_Mo_layParts 6 none 6 169 [.int (nI b)] I J a g (fun u => SP I a u ∧ u.2.2.1 33 = pt (a 33) (wi t) 0 3375 ∧ u.1 39 = nI (cn (plv (vw t)) 3375) ∧ u.1 40 = nI (gmx (plv (vw t)) (szp 6 (vw t)) 3375) ∧ u.1 41 = nI (cn (hlv (vw t)) 3375) ∧ u.1 42 = nI (smx (hlv (vw t)) (szp 6 (vw t)) 3375) ∧ MKI (vw t) 3375 (u.2.2.1 37) ∧ NMI (vw t) 3375 (u.2.2.1 37)) := by
  refine mo_entv (by decide) rfl (Nat.le_of_ble_eq_true rfl) ?_
  intro p e s m args below meth c Q hC hK hM hret ls hl
  have hx := hC.1
  have hb := hC.2.1
  replace hl : lv_has ls 6 [(0, .ref (ad 46)), (1, .int (nI b))] := hl
  refine lv_aload_n hx hb d_Mo_layParts_0 rfl (lv_at hl 0 rfl) ?_
  refine lv_iload_n hx hb d_Mo_layParts_1 rfl (lv_at hl 1 rfl) ?_
  refine mo_callv (np := 1) hC hK hM (c_Mo_ask l D cT ad I J a g b t (by omega) (hT)) rfl ⟨wl_Mo_263, wi_Mo_ask, ws_Mo_ask, wc_Mo_ask, wn_Mo⟩ ⟨by decide, by decide, by decide +kernel⟩ ⟨Nat.le_of_ble_eq_true rfl, Nat.le_of_ble_eq_true rfl⟩ hl.1 rfl (rest := []) rfl (Nat.le_of_ble_eq_true rfl) ⟨Nat.zero_le _, Nat.zero_le _⟩ d_Mo_layParts_2 (fun I1 J1 a1 g1 H locs hp1 hM => ?_)
  obtain ⟨hI_p1, hA_p1⟩ := hp1
  replace hI_p1 : I1 = I := hI_p1
  replace hA_p1 : a1 = va_up a 33 (pt (a 33) (wi t) 0 3375) := hA_p1
  rw [hI_p1, hA_p1] at hM
  refine lv_aload_n hx hb d_Mo_layParts_5 rfl (lv_at hl 0 rfl) ?_
  refine lv_iconst (v := 0) hx hb d_Mo_layParts_6 (by decide) ?_
  refine mo_puti hC hK hM 39 wf_Mo_280 rfl rfl (by decide) rfl (by decide +kernel) (x := 0) d_Mo_layParts_7 (fun H locs hM => ?_)
  refine lv_aload_n hx hb d_Mo_layParts_10 rfl (lv_at hl 0 rfl) ?_
  refine lv_iconst (v := 0) hx hb d_Mo_layParts_11 (by decide) ?_
  refine mo_puti hC hK hM 40 wf_Mo_283 rfl rfl (by decide) rfl (by decide +kernel) (x := 0) d_Mo_layParts_12 (fun H locs hM => ?_)
  refine lv_aload_n hx hb d_Mo_layParts_15 rfl (lv_at hl 0 rfl) ?_
  refine lv_iconst (v := 0) hx hb d_Mo_layParts_16 (by decide) ?_
  refine mo_puti hC hK hM 41 wf_Mo_286 rfl rfl (by decide) rfl (by decide +kernel) (x := 0) d_Mo_layParts_17 (fun H locs hM => ?_)
  refine lv_aload_n hx hb d_Mo_layParts_20 rfl (lv_at hl 0 rfl) ?_
  refine lv_iconst (v := 0) hx hb d_Mo_layParts_21 (by decide) ?_
  refine mo_puti hC hK hM 42 wf_Mo_289 rfl rfl (by decide) rfl (by decide +kernel) (x := 0) d_Mo_layParts_22 (fun H locs hM => ?_)
  refine lv_iconst (v := 0) hx hb d_Mo_layParts_25 (by decide) ?_
  refine lv_istore_n (lv' := [(2, .int 0), (0, .ref (ad 46)), (1, .int (nI b))]) hx hb d_Mo_layParts_26 rfl hl (by decide) rfl (fun ls hl => ?_)
  have hL27 : ∀ (nn : Nat) (k : Nat) (PF9 : Nat → Int32) (H : Heap) (locs : List Loc) (ls : Array Slot), 3375 - k < nn → (k ≤ 3375) → (∀ j, j < k → PF9 j = -4) → MO D cT ad (upd (upd (upd (upd I 39 0) 40 0) 41 0) 42 0) J1 (va_up (va_up a 33 (pt (a 33) (wi t) 0 3375)) 37 PF9) g1 s.heap H locs → lv_has ls 6 [(0, .ref (ad 46)), (2, .int (nI k))] → W p l e (rmOf 6 169) s m args below meth c H locs 0 0 Q (F0 m 27 ls []) := by
    intro nn
    induction nn with
    | zero =>
      intro k PF9 H locs ls hmeas27 hk hP9 hM hl
      exact absurd hmeas27 (Nat.not_lt_zero _)
    | succ nn ih27 =>
      intro k PF9 H locs ls hmeas27 hk hP9 hM hl
      refine lv_iload_n hx hb d_Mo_layParts_27 rfl (lv_at hl 1 rfl) ?_
      refine lv_sipush (v := 3375) hx hb d_Mo_layParts_28 (by decide) ?_
      refine nc_ge hx hb k 3375 (by omega) (by omega) d_Mo_layParts_31 (tgt := 48) (by decide) (fun h2 => ?_) (fun h2 => ?_)
      · skip
        refine lv_iconst (v := 0) hx hb d_Mo_layParts_48 (by decide) ?_
        refine lv_istore_n (lv' := [(2, .int 0), (0, .ref (ad 46))]) hx hb d_Mo_layParts_49 rfl hl (by decide) rfl (fun ls hl => ?_)
        have hL50 : ∀ (nn : Nat) (k : Nat) (RF : Nat → Int32) (PF : Nat → Int32) (H : Heap) (locs : List Loc) (ls : Array Slot), 3375 - k < nn → (k ≤ 3375) → (MKI (vw t) k PF) → (NMI (vw t) k PF) → MO D cT ad (upd (upd (upd (upd I 39 (nI (cn (plv (vw t)) k))) 40 (nI (gmx (plv (vw t)) (szp 6 (vw t)) k))) 41 (nI (cn (hlv (vw t)) k))) 42 (nI (smx (hlv (vw t)) (szp 6 (vw t)) k))) J1 (va_up (va_up (va_up a 33 (pt (a 33) (wi t) 0 3375)) 38 RF) 37 PF) g1 s.heap H locs → lv_has ls 6 [(0, .ref (ad 46)), (2, .int (nI k))] → W p l e (rmOf 6 169) s m args below meth c H locs 0 0 Q (F0 m 50 ls []) := by
          intro nn
          induction nn with
          | zero =>
            intro k RF PF H locs ls hmeas50 hk hMK hNM hM hl
            exact absurd hmeas50 (Nat.not_lt_zero _)
          | succ nn ih50 =>
            intro k RF PF H locs ls hmeas50 hk hMK hNM hM hl
            refine lv_iload_n hx hb d_Mo_layParts_50 rfl (lv_at hl 1 rfl) ?_
            refine lv_sipush (v := 3375) hx hb d_Mo_layParts_51 (by decide) ?_
            refine nc_ge hx hb k 3375 (by omega) (by omega) d_Mo_layParts_54 (tgt := 224) (by decide) (fun h3 => ?_) (fun h3 => ?_)
            · skip
              refine hret _ _ _ _ _ _ _ _ d_Mo_layParts_224 hM ?_
              obtain rfl : k = 3375 := by omega
              exact ⟨⟨rfl, rfl, rfl, fun k hk => (va_up_ne _ _ (by omega)).trans ((va_up_ne _ _ (by omega)).trans (va_up_ne _ _ (by omega)))⟩, rfl, rfl, rfl, rfl, rfl, hMK, hNM⟩
            · skip
              refine lv_aload_n hx hb d_Mo_layParts_57 rfl (lv_at hl 0 rfl) ?_
              refine mo_getr hC hK hM 37 wf_Mo_72 rfl (by decide) (by decide) d_Mo_layParts_58 ?_
              refine lv_iload_n hx hb d_Mo_layParts_61 rfl (lv_at hl 1 rfl) ?_
              refine mo_ialdN hC hK hM 37 k (by decide) rfl (n := 3375) rfl (by decide) (i := nI k) (rfl) (by omega) (v := PF k) (rfl) d_Mo_layParts_62 ?_
              refine lv_bipush (v := (-4)) hx hb d_Mo_layParts_63 (by decide) ?_
              refine lv_icmp_ne (tgt := 218) hx hb d_Mo_layParts_65 (by decide) (fun h4 => ?_) (fun h4 => ?_)
              · skip
                refine lv_iinc (v := nI (k + 1)) (lv' := [(2, .int (nI (k + 1))), (0, .ref (ad 46))]) hx hb d_Mo_layParts_218 hl (k := 1) rfl (nI_add k 1) (by decide) rfl (fun ls hl => ?_)
                refine lv_goto (tgt := 50) hx hb d_Mo_layParts_221 (by decide) ?_
                have hno := MK_no (by omega) hMK h4
                exact ih50 (k + 1) RF _ _ _ _ (by omega) (by omega) (hno.1) (NM_no hNM hno.2) (by rw [plv_s _ hno.2, hlv_s _ hno.2, gmx_s _ hno.2, smx_s _ hno.2]; simp only [Bool.false_eq_true, if_false, ite_self, Nat.add_zero]; exact hM) (lv_sub hl [1, 0] rfl)
              · skip
                refine lv_aload_n hx hb d_Mo_layParts_68 rfl (lv_at hl 0 rfl) ?_
                refine lv_iload_n hx hb d_Mo_layParts_69 rfl (lv_at hl 1 rfl) ?_
                refine lv_aload_n hx hb d_Mo_layParts_70 rfl (lv_at hl 0 rfl) ?_
                refine mo_getr hC hK hM 33 wf_Mo_59 rfl (by decide) (by decide) d_Mo_layParts_71 ?_
                refine lv_iload_n hx hb d_Mo_layParts_74 rfl (lv_at hl 1 rfl) ?_
                refine mo_zaldN hC hK hM 33 k (by decide) rfl (n := 3375) rfl (by decide) (i := nI k) (rfl) (by omega) (v := bI (vw t k = true)) (ask_at _ (by omega)) d_Mo_layParts_75 ?_
                have hJ5 : ∀ (H : Heap) (locs : List Loc) (ls : Array Slot), MO D cT ad (upd (upd (upd (upd I 39 (nI (cn (plv (vw t)) k))) 40 (nI (gmx (plv (vw t)) (szp 6 (vw t)) k))) 41 (nI (cn (hlv (vw t)) k))) 42 (nI (smx (hlv (vw t)) (szp 6 (vw t)) k))) J1 (va_up (va_up (va_up a 33 (pt (a 33) (wi t) 0 3375)) 38 RF) 37 PF) g1 s.heap H locs → lv_has ls 6 [(0, .ref (ad 46)), (2, .int (nI k))] → W p l e (rmOf 6 169) s m args below meth c H locs 0 0 Q (F0 m 89 ls [.int (nI (if vw t k = true then cn (plv (vw t)) k else 3375)), .int (nI k), .ref (ad 46)]) := ?_
                · skip
                  refine bz_eq (tgt := 86) hx hb d_Mo_layParts_76 (by decide) (fun h6 => ?_) (fun h6 => ?_)
                  · skip
                    refine lv_sipush (v := 3375) hx hb d_Mo_layParts_86 (by decide) ?_
                    refine topi_eq (show (3375 : Int32) = nI (if vw t k = true then cn (plv (vw t)) k else 3375) by first | rfl | exact (bI_t (by assumption)).symm | exact (bI_f (by assumption)).symm | exact (bI_f (fun z => z (by assumption))).symm | (rw [if_neg h6]; done) | (rw [if_neg h6]; rfl) | (simp only [if_neg h6]; done) | (simp only [if_neg h6]; rfl)) ?_
                    exact hJ5 _ _ _ (by first | exact hM | (simp only [if_neg h6]; exact hM)) (by first | exact lv_sub hl [0, 1] rfl | (simp only [if_neg h6]; exact lv_sub hl [0, 1] rfl))
                  · skip
                    refine lv_aload_n hx hb d_Mo_layParts_79 rfl (lv_at hl 0 rfl) ?_
                    refine mo_geti hC hK hM 39 wf_Mo_280 rfl rfl (by decide) (v := nI (cn (plv (vw t)) k)) (rfl) d_Mo_layParts_80 ?_
                    refine lv_goto (tgt := 89) hx hb d_Mo_layParts_83 (by decide) ?_
                    refine topi_eq (show (nI (cn (plv (vw t)) k) : Int32) = nI (if vw t k = true then cn (plv (vw t)) k else 3375) by first | rfl | exact (bI_t (by assumption)).symm | exact (bI_f (by assumption)).symm | exact (bI_f (fun z => z (by assumption))).symm | (rw [if_pos h6]; done) | (rw [if_pos h6]; rfl) | (simp only [if_pos h6]; done) | (simp only [if_pos h6]; rfl)) ?_
                    exact hJ5 _ _ _ (by first | exact hM | (simp only [if_pos h6]; exact hM)) (by first | exact lv_sub hl [0, 1] rfl | (simp only [if_pos h6]; exact lv_sub hl [0, 1] rfl))
                intro H locs ls hM hl
                have hnum9 : ¬ (nI (if vw t k = true then cn (plv (vw t)) k else 3375) : Int32) = -4 := by
                  split
                  · exact num_ne (by have := cn_le (plv (vw t)) k; omega)
                  · exact num_ne (n := 3375) (by omega)
                refine lv_bipush (v := 6) hx hb d_Mo_layParts_89 (by decide) ?_
                refine mo_calli (np := 3) hC hK hM (c_Mo_spread l D cT ad (upd (upd (upd (upd I 39 (nI (cn (plv (vw t)) k))) 40 (nI (gmx (plv (vw t)) (szp 6 (vw t)) k))) 41 (nI (cn (hlv (vw t)) k))) 42 (nI (smx (hlv (vw t)) (szp 6 (vw t)) k))) J1 (va_up (va_up (va_up a 33 (pt (a 33) (wi t) 0 3375)) 38 RF) 37 PF) g1 k (nI (if vw t k = true then cn (plv (vw t)) k else 3375)) 6 (by omega) (by omega) hnum9) rfl ⟨wl_Mo_292, wi_Mo_spread, ws_Mo_spread, wc_Mo_spread, wn_Mo⟩ ⟨by decide, by decide, by decide +kernel⟩ ⟨Nat.le_of_ble_eq_true rfl, Nat.le_of_ble_eq_true rfl⟩ hl.1 rfl (rest := []) rfl (Nat.le_of_ble_eq_true rfl) ⟨Nat.zero_le _, Nat.zero_le _⟩ d_Mo_layParts_91 (fun rr7 I8 J8 a8 g8 H locs hp8 hM => ?_)
                obtain ⟨qu_p8, mm_p8, RF_p8, PF_p8, hr_p8, hu_p8, hS_p8, hC_p8⟩ := hp8
                cases hu_p8
                subst hr_p8
                replace hS_p8 : SPR 6 k (nI (if vw t k = true then cn (plv (vw t)) k else 3375)) PF (pt (a 33) (wi t) 0 3375) PF_p8 RF_p8 qu_p8 mm_p8 := hS_p8
                replace hC_p8 : SPC 6 k PF (pt (a 33) (wi t) 0 3375) qu_p8 mm_p8 mm_p8 0 := hC_p8
                rw [up_swap (i := 37) (j := 38) (by decide), bx_uu, bx_uu] at hM
                have hset9 := sp_hng (V := vw t) (R := fun x => x < 3375) hS_p8 hC_p8 (fun _ h => h) (by omega) (fun _ _ _ _ h => h) (fun y hy => ask_at y hy) (by assumption) (MK_cl hMK (by omega))
                have hlst9 := MK_lst (by omega) hMK (by assumption)
                have hpt9 := SP_at hS_p8 hset9
                have hmm9 := SPR_m hS_p8
                refine lv_istore_n (lv' := [(3, .int (nI mm_p8)), (0, .ref (ad 46)), (2, .int (nI k))]) hx hb d_Mo_layParts_94 rfl hl (by decide) rfl (fun ls hl => ?_)
                refine lv_aload_n hx hb d_Mo_layParts_95 rfl (lv_at hl 1 rfl) ?_
                refine mo_getr hC hK hM 33 wf_Mo_59 rfl (by decide) (by decide) d_Mo_layParts_96 ?_
                refine lv_iload_n hx hb d_Mo_layParts_99 rfl (lv_at hl 2 rfl) ?_
                refine mo_zaldN hC hK hM 33 k (by decide) rfl (n := 3375) rfl (by decide) (i := nI k) (rfl) (by omega) (v := bI (vw t k = true)) (ask_at _ (by omega)) d_Mo_layParts_100 ?_
                refine bz_eq (tgt := 137) hx hb d_Mo_layParts_101 (by decide) (fun h9 => ?_) (fun h9 => ?_)
                · skip
                  have hwi9 : ¬ vw t k = true := by assumption
                  refine lv_iconst (v := 0) hx hb d_Mo_layParts_137 (by decide) ?_
                  refine lv_istore (lv' := [(4, .int 0), (3, .int (nI mm_p8)), (0, .ref (ad 46)), (2, .int (nI k))]) hx hb d_Mo_layParts_138 hl (by decide) rfl (fun ls hl => ?_)
                  refine lv_iconst (v := 0) hx hb d_Mo_layParts_140 (by decide) ?_
                  refine lv_istore (lv' := [(5, .int 0), (4, .int 0), (3, .int (nI mm_p8)), (0, .ref (ad 46)), (2, .int (nI k))]) hx hb d_Mo_layParts_141 hl (by decide) rfl (fun ls hl => ?_)
                  have hL143 : ∀ (nn : Nat) (ii : Nat) (H : Heap) (locs : List Loc) (ls : Array Slot), mm_p8 - ii < nn → (ii ≤ mm_p8) → MO D cT ad (upd (upd (upd (upd I 39 (nI (cn (plv (vw t)) k))) 40 (nI (gmx (plv (vw t)) (szp 6 (vw t)) k))) 41 (nI (cn (hlv (vw t)) k))) 42 (nI (smx (hlv (vw t)) (szp 6 (vw t)) k))) J1 (va_up (va_up (va_up a 33 (pt (a 33) (wi t) 0 3375)) 38 RF_p8) 37 PF_p8) g1 s.heap H locs → lv_has ls 6 [(0, .ref (ad 46)), (2, .int (nI k)), (3, .int (nI mm_p8)), (4, .int (bI (anB (fun i => isE (qu_p8 i)) ii = true))), (5, .int (nI ii))] → W p l e (rmOf 6 169) s m args below meth c H locs 0 0 Q (F0 m 143 ls []) := by
                    intro nn
                    induction nn with
                    | zero =>
                      intro ii H locs ls hmeas143 hii hM hl
                      exact absurd hmeas143 (Nat.not_lt_zero _)
                    | succ nn ih143 =>
                      intro ii H locs ls hmeas143 hii hM hl
                      refine lv_iload hx hb d_Mo_layParts_143 (lv_at hl 4 rfl) ?_
                      refine lv_iload_n hx hb d_Mo_layParts_145 rfl (lv_at hl 2 rfl) ?_
                      refine nc_ge hx hb ii mm_p8 (by omega) (by omega) d_Mo_layParts_146 (tgt := 180) (by decide) (fun h10 => ?_) (fun h10 => ?_)
                      · skip
                        obtain rfl : mm_p8 = ii := by omega
                        refine lv_aload_n hx hb d_Mo_layParts_180 rfl (lv_at hl 0 rfl) ?_
                        refine lv_dup hx hb d_Mo_layParts_181 rfl ?_
                        refine mo_geti hC hK hM 41 wf_Mo_286 rfl rfl (by decide) (v := nI (cn (hlv (vw t)) k)) (rfl) d_Mo_layParts_182 ?_
                        refine lv_iload hx hb d_Mo_layParts_185 (lv_at hl 3 rfl) ?_
                        have hJ11 : ∀ (H : Heap) (locs : List Loc) (ls : Array Slot), MO D cT ad (upd (upd (upd (upd I 39 (nI (cn (plv (vw t)) k))) 40 (nI (gmx (plv (vw t)) (szp 6 (vw t)) k))) 41 (nI (cn (hlv (vw t)) k))) 42 (nI (smx (hlv (vw t)) (szp 6 (vw t)) k))) J1 (va_up (va_up (va_up a 33 (pt (a 33) (wi t) 0 3375)) 38 RF_p8) 37 PF_p8) g1 s.heap H locs → lv_has ls 6 [(0, .ref (ad 46)), (2, .int (nI k)), (3, .int (nI mm_p8)), (4, .int (bI (anB (fun i => isE (qu_p8 i)) mm_p8 = true))), (5, .int (nI mm_p8))] → W p l e (rmOf 6 169) s m args below meth c H locs 0 0 Q (F0 m 195 ls [.int (nI (if anB (fun i => isE (qu_p8 i)) mm_p8 = true then 0 else 1)), .int (nI (cn (hlv (vw t)) k)), .ref (ad 46)]) := ?_
                        · skip
                          refine bz_eq (tgt := 194) hx hb d_Mo_layParts_187 (by decide) (fun h12 => ?_) (fun h12 => ?_)
                          · skip
                            refine lv_iconst (v := 1) hx hb d_Mo_layParts_194 (by decide) ?_
                            refine topi_eq (show (1 : Int32) = nI (if anB (fun i => isE (qu_p8 i)) mm_p8 = true then 0 else 1) by first | rfl | exact (bI_t (by assumption)).symm | exact (bI_f (by assumption)).symm | exact (bI_f (fun z => z (by assumption))).symm | (rw [if_neg h12]; done) | (rw [if_neg h12]; rfl) | (simp only [if_neg h12]; done) | (simp only [if_neg h12]; rfl)) ?_
                            exact hJ11 _ _ _ (by first | exact hM | (simp only [if_neg h12]; exact hM)) (by first | exact lv_sub hl [0, 1, 2, 3, 4] rfl | (simp only [if_neg h12]; exact lv_sub hl [0, 1, 2, 3, 4] rfl))
                          · skip
                            refine lv_iconst (v := 0) hx hb d_Mo_layParts_190 (by decide) ?_
                            refine lv_goto (tgt := 195) hx hb d_Mo_layParts_191 (by decide) ?_
                            refine topi_eq (show (0 : Int32) = nI (if anB (fun i => isE (qu_p8 i)) mm_p8 = true then 0 else 1) by first | rfl | exact (bI_t (by assumption)).symm | exact (bI_f (by assumption)).symm | exact (bI_f (fun z => z (by assumption))).symm | (rw [if_pos h12]; done) | (rw [if_pos h12]; rfl) | (simp only [if_pos h12]; done) | (simp only [if_pos h12]; rfl)) ?_
                            exact hJ11 _ _ _ (by first | exact hM | (simp only [if_pos h12]; exact hM)) (by first | exact lv_sub hl [0, 1, 2, 3, 4] rfl | (simp only [if_pos h12]; exact lv_sub hl [0, 1, 2, 3, 4] rfl))
                        intro H locs ls hM hl
                        refine lv_iadd hx hb d_Mo_layParts_195 ?_
                        refine topi_eq (nI_add (cn (hlv (vw t)) k) (if anB (fun i => isE (qu_p8 i)) mm_p8 = true then 0 else 1)) ?_
                        refine mo_puti hC hK hM 41 wf_Mo_286 rfl rfl (by decide) rfl (by decide +kernel) (x := nI ((cn (hlv (vw t)) k) + (if anB (fun i => isE (qu_p8 i)) mm_p8 = true then 0 else 1))) d_Mo_layParts_196 (fun H locs hM => ?_)
                        rw [upd_swap (i := 42) (j := 41) (by decide), upd_upd] at hM
                        refine lv_aload_n hx hb d_Mo_layParts_199 rfl (lv_at hl 0 rfl) ?_
                        refine lv_dup hx hb d_Mo_layParts_200 rfl ?_
                        refine mo_geti hC hK hM 42 wf_Mo_289 rfl rfl (by decide) (v := nI (smx (hlv (vw t)) (szp 6 (vw t)) k)) (rfl) d_Mo_layParts_201 ?_
                        refine lv_iload hx hb d_Mo_layParts_204 (lv_at hl 3 rfl) ?_
                        have hJ13 : ∀ (H : Heap) (locs : List Loc) (ls : Array Slot), MO D cT ad (upd (upd (upd (upd I 39 (nI (cn (plv (vw t)) k))) 40 (nI (gmx (plv (vw t)) (szp 6 (vw t)) k))) 41 (nI ((cn (hlv (vw t)) k) + (if anB (fun i => isE (qu_p8 i)) mm_p8 = true then 0 else 1)))) 42 (nI (smx (hlv (vw t)) (szp 6 (vw t)) k))) J1 (va_up (va_up (va_up a 33 (pt (a 33) (wi t) 0 3375)) 38 RF_p8) 37 PF_p8) g1 s.heap H locs → lv_has ls 6 [(0, .ref (ad 46)), (2, .int (nI k)), (3, .int (nI mm_p8)), (4, .int (bI (anB (fun i => isE (qu_p8 i)) mm_p8 = true))), (5, .int (nI mm_p8))] → W p l e (rmOf 6 169) s m args below meth c H locs 0 0 Q (F0 m 214 ls [.int (nI (if anB (fun i => isE (qu_p8 i)) mm_p8 = true then 0 else mm_p8)), .int (nI (smx (hlv (vw t)) (szp 6 (vw t)) k)), .ref (ad 46)]) := ?_
                        · skip
                          refine bz_eq (tgt := 213) hx hb d_Mo_layParts_206 (by decide) (fun h14 => ?_) (fun h14 => ?_)
                          · skip
                            refine lv_iload_n hx hb d_Mo_layParts_213 rfl (lv_at hl 2 rfl) ?_
                            refine topi_eq (show (nI mm_p8 : Int32) = nI (if anB (fun i => isE (qu_p8 i)) mm_p8 = true then 0 else mm_p8) by first | rfl | exact (bI_t (by assumption)).symm | exact (bI_f (by assumption)).symm | exact (bI_f (fun z => z (by assumption))).symm | (rw [if_neg h14]; done) | (rw [if_neg h14]; rfl) | (simp only [if_neg h14]; done) | (simp only [if_neg h14]; rfl)) ?_
                            exact hJ13 _ _ _ (by first | exact hM | (simp only [if_neg h14]; exact hM)) (by first | exact lv_sub hl [0, 1, 2, 3, 4] rfl | (simp only [if_neg h14]; exact lv_sub hl [0, 1, 2, 3, 4] rfl))
                          · skip
                            refine lv_iconst (v := 0) hx hb d_Mo_layParts_209 (by decide) ?_
                            refine lv_goto (tgt := 214) hx hb d_Mo_layParts_210 (by decide) ?_
                            refine topi_eq (show (0 : Int32) = nI (if anB (fun i => isE (qu_p8 i)) mm_p8 = true then 0 else mm_p8) by first | rfl | exact (bI_t (by assumption)).symm | exact (bI_f (by assumption)).symm | exact (bI_f (fun z => z (by assumption))).symm | (rw [if_pos h14]; done) | (rw [if_pos h14]; rfl) | (simp only [if_pos h14]; done) | (simp only [if_pos h14]; rfl)) ?_
                            exact hJ13 _ _ _ (by first | exact hM | (simp only [if_pos h14]; exact hM)) (by first | exact lv_sub hl [0, 1, 2, 3, 4] rfl | (simp only [if_pos h14]; exact lv_sub hl [0, 1, 2, 3, 4] rfl))
                        intro H locs ls hM hl
                        refine lv_iadd hx hb d_Mo_layParts_214 ?_
                        refine topi_eq (nI_add (smx (hlv (vw t)) (szp 6 (vw t)) k) (if anB (fun i => isE (qu_p8 i)) mm_p8 = true then 0 else mm_p8)) ?_
                        refine mo_puti hC hK hM 42 wf_Mo_289 rfl rfl (by decide) rfl (by decide +kernel) (x := nI ((smx (hlv (vw t)) (szp 6 (vw t)) k) + (if anB (fun i => isE (qu_p8 i)) mm_p8 = true then 0 else mm_p8))) d_Mo_layParts_215 (fun H locs hM => ?_)
                        rw [upd_upd] at hM
                        refine lv_iinc (v := nI (k + 1)) (lv' := [(2, .int (nI (k + 1))), (0, .ref (ad 46)), (3, .int (nI mm_p8)), (4, .int (bI (anB (fun i => isE (qu_p8 i)) mm_p8 = true))), (5, .int (nI mm_p8))]) hx hb d_Mo_layParts_218 hl (k := 1) rfl (nI_add k 1) (by decide) rfl (fun ls hl => ?_)
                        refine lv_goto (tgt := 50) hx hb d_Mo_layParts_221 (by decide) ?_
                        exact ih50 (k + 1) _ _ _ _ _ (by omega) (by omega) (MK_yes hMK hnum9 hpt9) (NM_yes (by omega) hNM hlst9 (fun z => by first | (rw [if_pos z]; done) | rfl) hpt9) (by simp only [plv_s _ hlst9, hlv_s _ hlst9, gmx_s _ hlst9, smx_s _ hlst9, sz_of hS_p8 hset9, if_neg hwi9, if_true, Nat.add_zero, sht_of hset9, nt_if]; exact hM) (lv_sub hl [1, 0] rfl)
                      · skip
                        refine lv_iload hx hb d_Mo_layParts_149 (lv_at hl 3 rfl) ?_
                        have hJ15 : ∀ (H : Heap) (locs : List Loc) (ls : Array Slot), MO D cT ad (upd (upd (upd (upd I 39 (nI (cn (plv (vw t)) k))) 40 (nI (gmx (plv (vw t)) (szp 6 (vw t)) k))) 41 (nI (cn (hlv (vw t)) k))) 42 (nI (smx (hlv (vw t)) (szp 6 (vw t)) k))) J1 (va_up (va_up (va_up a 33 (pt (a 33) (wi t) 0 3375)) 38 RF_p8) 37 PF_p8) g1 s.heap H locs → lv_has ls 6 [(0, .ref (ad 46)), (2, .int (nI k)), (3, .int (nI mm_p8)), (4, .int (bI (anB (fun i => isE (qu_p8 i)) ii = true))), (5, .int (nI ii))] → W p l e (rmOf 6 169) s m args below meth c H locs 0 0 Q (F0 m 172 ls [.int (nI (if anB (fun i => isE (qu_p8 i)) ii = true then 1 else if isE (qu_p8 ii) = true then 1 else 0))]) := ?_
                        · skip
                          refine bz_ne (tgt := 167) hx hb d_Mo_layParts_151 (by decide) (fun h16 => ?_) (fun h16 => ?_)
                          · skip
                            refine lv_iconst (v := 1) hx hb d_Mo_layParts_167 (by decide) ?_
                            refine lv_goto (tgt := 172) hx hb d_Mo_layParts_168 (by decide) ?_
                            refine topi_eq (show (1 : Int32) = nI (if anB (fun i => isE (qu_p8 i)) ii = true then 1 else if isE (qu_p8 ii) = true then 1 else 0) by first | rfl | exact (bI_t (by assumption)).symm | exact (bI_f (by assumption)).symm | exact (bI_f (fun z => z (by assumption))).symm | (rw [if_pos h16]; done) | (rw [if_pos h16]; rfl) | (simp only [if_pos h16]; done) | (simp only [if_pos h16]; rfl)) ?_
                            exact hJ15 _ _ _ (by first | exact hM | (simp only [if_pos h16]; exact hM)) (by first | exact lv_sub hl [0, 1, 2, 3, 4] rfl | (simp only [if_pos h16]; exact lv_sub hl [0, 1, 2, 3, 4] rfl))
                          · skip
                            refine lv_aload_n hx hb d_Mo_layParts_154 rfl (lv_at hl 0 rfl) ?_
                            refine mo_getr hC hK hM 38 wf_Mo_75 rfl (by decide) (by decide) d_Mo_layParts_155 ?_
                            refine lv_iload hx hb d_Mo_layParts_158 (lv_at hl 4 rfl) ?_
                            refine mo_ialdN hC hK hM 38 ii (by decide) rfl (n := 3375) rfl (by decide) (i := nI ii) (rfl) (by omega) (v := nI (qu_p8 ii)) ((hS_p8.2.1 ii (by omega)).2.1) d_Mo_layParts_160 ?_
                            refine st_calli (np := 1) hC (c_Mo_isEnd l (qu_p8 ii) (hS_p8.2.1 ii (by omega)).1) ⟨wl_Mo_295, wt_Mo_isEnd, wc_Mo_isEnd, wn_Mo⟩ ⟨by decide, by decide, by decide +kernel⟩ ⟨Nat.le_of_ble_eq_true rfl, Nat.le_of_ble_eq_true rfl⟩ hl.1 rfl (rest := []) rfl (Nat.le_of_ble_eq_true rfl) ⟨Nat.zero_le _, Nat.zero_le _⟩ d_Mo_layParts_161 (fun rr hrr => ?_)
                            subst hrr
                            refine bz_eq (tgt := 171) hx hb d_Mo_layParts_164 (by decide) (fun h17 => ?_) (fun h17 => ?_)
                            · skip
                              refine lv_iconst (v := 0) hx hb d_Mo_layParts_171 (by decide) ?_
                              refine topi_eq (show (0 : Int32) = nI (if anB (fun i => isE (qu_p8 i)) ii = true then 1 else if isE (qu_p8 ii) = true then 1 else 0) by first | rfl | exact (bI_t (by assumption)).symm | exact (bI_f (by assumption)).symm | exact (bI_f (fun z => z (by assumption))).symm | (rw [if_neg h16, if_neg h17]; done) | (rw [if_neg h16, if_neg h17]; rfl) | (simp only [if_neg h16, if_neg h17]; done) | (simp only [if_neg h16, if_neg h17]; rfl)) ?_
                              exact hJ15 _ _ _ (by first | exact hM | (simp only [if_neg h16, if_neg h17]; exact hM)) (by first | exact lv_sub hl [0, 1, 2, 3, 4] rfl | (simp only [if_neg h16, if_neg h17]; exact lv_sub hl [0, 1, 2, 3, 4] rfl))
                            · skip
                              refine lv_iconst (v := 1) hx hb d_Mo_layParts_167 (by decide) ?_
                              refine lv_goto (tgt := 172) hx hb d_Mo_layParts_168 (by decide) ?_
                              refine topi_eq (show (1 : Int32) = nI (if anB (fun i => isE (qu_p8 i)) ii = true then 1 else if isE (qu_p8 ii) = true then 1 else 0) by first | rfl | exact (bI_t (by assumption)).symm | exact (bI_f (by assumption)).symm | exact (bI_f (fun z => z (by assumption))).symm | (rw [if_neg h16, if_pos h17]; done) | (rw [if_neg h16, if_pos h17]; rfl) | (simp only [if_neg h16, if_pos h17]; done) | (simp only [if_neg h16, if_pos h17]; rfl)) ?_
                              exact hJ15 _ _ _ (by first | exact hM | (simp only [if_neg h16, if_pos h17]; exact hM)) (by first | exact lv_sub hl [0, 1, 2, 3, 4] rfl | (simp only [if_neg h16, if_pos h17]; exact lv_sub hl [0, 1, 2, 3, 4] rfl))
                        intro H locs ls hM hl
                        refine lv_istore (lv' := [(4, .int (nI (if anB (fun i => isE (qu_p8 i)) ii = true then 1 else if isE (qu_p8 ii) = true then 1 else 0))), (0, .ref (ad 46)), (2, .int (nI k)), (3, .int (nI mm_p8)), (5, .int (nI ii))]) hx hb d_Mo_layParts_172 hl (by decide) rfl (fun ls hl => ?_)
                        refine lv_iinc (v := nI (ii + 1)) (lv' := [(5, .int (nI (ii + 1))), (4, .int (nI (if anB (fun i => isE (qu_p8 i)) ii = true then 1 else if isE (qu_p8 ii) = true then 1 else 0))), (0, .ref (ad 46)), (2, .int (nI k)), (3, .int (nI mm_p8))]) hx hb d_Mo_layParts_174 hl (k := 4) rfl (nI_add ii 1) (by decide) rfl (fun ls hl => ?_)
                        refine lv_goto (tgt := 143) hx hb d_Mo_layParts_177 (by decide) ?_
                        exact ih143 (ii + 1) _ _ _ (by omega) (by omega) (hM) (by rw [show bI (anB (fun i => isE (qu_p8 i)) (ii + 1) = true) = nI (if anB (fun i => isE (qu_p8 i)) ii = true then 1 else if isE (qu_p8 ii) = true then 1 else 0) from or2 _ _]; exact lv_sub hl [2, 3, 4, 1, 0] rfl)
                  exact hL143 _ 0 _ _ _ (Nat.lt_succ_self _) (by omega) (hM) (lv_sub hl [3, 4, 2, 1, 0] rfl)
                · skip
                  refine lv_aload_n hx hb d_Mo_layParts_104 rfl (lv_at hl 1 rfl) ?_
                  refine lv_dup hx hb d_Mo_layParts_105 rfl ?_
                  refine mo_geti hC hK hM 39 wf_Mo_280 rfl rfl (by decide) (v := nI (cn (plv (vw t)) k)) (rfl) d_Mo_layParts_106 ?_
                  refine lv_iconst (v := 1) hx hb d_Mo_layParts_109 (by decide) ?_
                  refine lv_iadd hx hb d_Mo_layParts_110 ?_
                  refine topi_eq (nI_add (cn (plv (vw t)) k) 1) ?_
                  refine mo_puti hC hK hM 39 wf_Mo_280 rfl rfl (by decide) rfl (by decide +kernel) (x := nI ((cn (plv (vw t)) k) + 1)) d_Mo_layParts_111 (fun H locs hM => ?_)
                  rw [upd_swap (i := 42) (j := 39) (by decide), upd_swap (i := 41) (j := 39) (by decide), upd_swap (i := 40) (j := 39) (by decide), upd_upd] at hM
                  refine lv_aload_n hx hb d_Mo_layParts_114 rfl (lv_at hl 1 rfl) ?_
                  refine lv_iload_n hx hb d_Mo_layParts_115 rfl (lv_at hl 0 rfl) ?_
                  refine lv_aload_n hx hb d_Mo_layParts_116 rfl (lv_at hl 1 rfl) ?_
                  refine mo_geti hC hK hM 40 wf_Mo_283 rfl rfl (by decide) (v := nI (gmx (plv (vw t)) (szp 6 (vw t)) k)) (rfl) d_Mo_layParts_117 ?_
                  have hJ18 : ∀ (H : Heap) (locs : List Loc) (ls : Array Slot), MO D cT ad (upd (upd (upd (upd I 39 (nI ((cn (plv (vw t)) k) + 1))) 40 (nI (gmx (plv (vw t)) (szp 6 (vw t)) k))) 41 (nI (cn (hlv (vw t)) k))) 42 (nI (smx (hlv (vw t)) (szp 6 (vw t)) k))) J1 (va_up (va_up (va_up a 33 (pt (a 33) (wi t) 0 3375)) 38 RF_p8) 37 PF_p8) g1 s.heap H locs → lv_has ls 6 [(0, .ref (ad 46)), (2, .int (nI k)), (3, .int (nI mm_p8))] → W p l e (rmOf 6 169) s m args below meth c H locs 0 0 Q (F0 m 131 ls [.int (nI (if (gmx (plv (vw t)) (szp 6 (vw t)) k) < mm_p8 then mm_p8 else gmx (plv (vw t)) (szp 6 (vw t)) k)), .ref (ad 46)]) := ?_
                  · skip
                    refine nc_le hx hb mm_p8 (gmx (plv (vw t)) (szp 6 (vw t)) k) (by have := gmx_le (p := plv (vw t)) (szp_le (ways := 6) (V := vw t)) k; omega) (by have := gmx_le (p := plv (vw t)) (szp_le (ways := 6) (V := vw t)) k; omega) d_Mo_layParts_120 (tgt := 127) (by decide) (fun h19 => ?_) (fun h19 => ?_)
                    · skip
                      refine lv_aload_n hx hb d_Mo_layParts_127 rfl (lv_at hl 1 rfl) ?_
                      refine mo_geti hC hK hM 40 wf_Mo_283 rfl rfl (by decide) (v := nI (gmx (plv (vw t)) (szp 6 (vw t)) k)) (rfl) d_Mo_layParts_128 ?_
                      refine topi_eq (show (nI (gmx (plv (vw t)) (szp 6 (vw t)) k) : Int32) = nI (if (gmx (plv (vw t)) (szp 6 (vw t)) k) < mm_p8 then mm_p8 else gmx (plv (vw t)) (szp 6 (vw t)) k) by first | rfl | exact (bI_t (by assumption)).symm | exact (bI_f (by assumption)).symm | exact (bI_f (fun z => z (by assumption))).symm | (rw [if_neg h19]; done) | (rw [if_neg h19]; rfl) | (simp only [if_neg h19]; done) | (simp only [if_neg h19]; rfl)) ?_
                      exact hJ18 _ _ _ (by first | exact hM | (simp only [if_neg h19]; exact hM)) (by first | exact lv_sub hl [1, 2, 0] rfl | (simp only [if_neg h19]; exact lv_sub hl [1, 2, 0] rfl))
                    · skip
                      refine lv_iload_n hx hb d_Mo_layParts_123 rfl (lv_at hl 0 rfl) ?_
                      refine lv_goto (tgt := 131) hx hb d_Mo_layParts_124 (by decide) ?_
                      refine topi_eq (show (nI mm_p8 : Int32) = nI (if (gmx (plv (vw t)) (szp 6 (vw t)) k) < mm_p8 then mm_p8 else gmx (plv (vw t)) (szp 6 (vw t)) k) by first | rfl | exact (bI_t (by assumption)).symm | exact (bI_f (by assumption)).symm | exact (bI_f (fun z => z (by assumption))).symm | (rw [if_pos h19]; done) | (rw [if_pos h19]; rfl) | (simp only [if_pos h19]; done) | (simp only [if_pos h19]; rfl)) ?_
                      exact hJ18 _ _ _ (by first | exact hM | (simp only [if_pos h19]; exact hM)) (by first | exact lv_sub hl [1, 2, 0] rfl | (simp only [if_pos h19]; exact lv_sub hl [1, 2, 0] rfl))
                  intro H locs ls hM hl
                  refine mo_puti hC hK hM 40 wf_Mo_283 rfl rfl (by decide) rfl (by decide +kernel) (x := nI (if (gmx (plv (vw t)) (szp 6 (vw t)) k) < mm_p8 then mm_p8 else gmx (plv (vw t)) (szp 6 (vw t)) k)) d_Mo_layParts_131 (fun H locs hM => ?_)
                  rw [upd_swap (i := 42) (j := 40) (by decide), upd_swap (i := 41) (j := 40) (by decide), upd_upd] at hM
                  refine lv_goto (tgt := 218) hx hb d_Mo_layParts_134 (by decide) ?_
                  refine lv_iinc (v := nI (k + 1)) (lv' := [(2, .int (nI (k + 1))), (0, .ref (ad 46)), (3, .int (nI mm_p8))]) hx hb d_Mo_layParts_218 hl (k := 1) rfl (nI_add k 1) (by decide) rfl (fun ls hl => ?_)
                  refine lv_goto (tgt := 50) hx hb d_Mo_layParts_221 (by decide) ?_
                  exact ih50 (k + 1) _ _ _ _ _ (by omega) (by omega) (MK_yes hMK hnum9 hpt9) (NM_yes (by omega) hNM hlst9 (fun z => by first | (rw [if_pos z]; done) | rfl) hpt9) (by simp only [plv_s _ hlst9, hlv_s _ hlst9, gmx_s _ hlst9, smx_s _ hlst9, sz_of hS_p8 hset9, if_pos h9, if_true, Nat.add_zero]; exact hM) (lv_sub hl [1, 0] rfl)
        exact hL50 _ 0 (a 38) _ _ _ _ (Nat.lt_succ_self _) (by omega) (fun j hj => ⟨fun z => absurd (hP9 j (by omega)) z, fun ⟨i, hi, _⟩ => by omega⟩) (fun i j hi => by omega) (by rw [up_same2 (f := va_up a 33 (pt (a 33) (wi t) 0 3375)) (k := 38) (x := a 38) (by rfl)]; exact hM) (lv_sub hl [1, 0] rfl)
      · skip
        refine lv_aload_n hx hb d_Mo_layParts_34 rfl (lv_at hl 0 rfl) ?_
        refine mo_getr hC hK hM 37 wf_Mo_72 rfl (by decide) (by decide) d_Mo_layParts_35 ?_
        refine lv_iload_n hx hb d_Mo_layParts_38 rfl (lv_at hl 1 rfl) ?_
        refine lv_bipush (v := (-4)) hx hb d_Mo_layParts_39 (by decide) ?_
        refine mo_iastN hC hK hM 37 k (by decide) rfl (n := 3375) rfl (by decide) (i := nI k) (x := (-4)) (rfl) (by omega) d_Mo_layParts_41 (fun H locs hM => ?_)
        rw [bx_uu] at hM
        replace hM : MO D cT ad (upd (upd (upd (upd I 39 0) 40 0) 41 0) 42 0) J1 (va_up (va_up a 33 (pt (a 33) (wi t) 0 3375)) 37 (upd PF9 k (-4))) g1 s.heap H locs := hM
        refine lv_iinc (v := nI (k + 1)) (lv' := [(2, .int (nI (k + 1))), (0, .ref (ad 46))]) hx hb d_Mo_layParts_42 hl (k := 1) rfl (nI_add k 1) (by decide) rfl (fun ls hl => ?_)
        refine lv_goto (tgt := 27) hx hb d_Mo_layParts_45 (by decide) ?_
        exact ih27 (k + 1) _ _ _ _ (by omega) (by omega) (fun j hj => by by_cases z : j = k; (rw [z]; exact pk_us); (rw [pk_un z]; exact hP9 j (by omega))) (hM) (lv_sub hl [1, 0] rfl)
  exact hL27 _ 0 _ _ _ _ (Nat.lt_succ_self _) (by omega) (fun j hj => by omega) (hM) (lv_sub hl [1, 0] rfl)
