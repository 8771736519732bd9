/-! the class: what its object keeps between calls -/
abbrev kB (b j : Nat) : Nat := 10 * (18 + 3 * b) + j
def VF (t : TX) : Nat → Bool := vwF t.2.1 t.2.2.1
def CBd (X : CX) (I : Nat → Int32) (a : Nat → Nat → Int32) (b : Nat) (t : TX) : Prop :=
  FT X.2.2.2.2 t.2.1 t.2.2.1 10 0 (X.2.1 (18 + 3 * b)) ∧ rpOk t.2.1 t.2.2.1 ∧ (∀ B, evF t.2.1 t.2.2.1 10 0 B = spT t B) ∧ (I (10 * (18 + 3 * b) + 1) = nI t.1 ∧ t.1 ≤ 64) ∧
  (I (10 * (18 + 3 * b) + 3) = 0 ∨ (I (10 * (18 + 3 * b) + 3) = 1 ∧ ∀ q, q < 225 → a (18 + 3 * b + 1) q = rwI (VF t) q)) ∧
  ((I (10 * (18 + 3 * b) + 5) = 0 ∧ FR5 (a (18 + 3 * b + 2)) zer) ∨ (I (10 * (18 + 3 * b) + 5) = 1 ∧ FR5 (a (18 + 3 * b + 2)) (pae t rt0)))
def CBs (X : CX) (I : Nat → Int32) (a : Nat → Nat → Int32) (nb : Nat) (T : Nat → TX) : Prop := I 3 = nI nb ∧ X.2.2.2.1 = nb ∧ nb ≤ 8 ∧ (∀ b, b < nb → X.2.2.1 b = some (X.1 (18 + 3 * b))) ∧ ∀ b, b < nb → CBd X I a b (T b)
def CFl (I : Nat → Int32) (a : Nat → Nat → Int32) : Prop := (∃ lr n sz, I 51 = nI lr ∧ I 54 = nI n ∧ I 55 = nI sz) ∧ ∀ q, q < 225 → a 7 q = 0
def CTp (I : Nat → Int32) (a : Nat → Nat → Int32) (tl : Nat) (tb : Nat → Nat) : Prop := I 11 = nI tl ∧ tl ≤ 160 ∧ ∀ j, j < tl → a 2 j &&& 255 = nI (tb j) ∧ tb j < 256
def CSh (I : Nat → Int32) (a : Nat → Nat → Int32) (la : Nat → Int32) (sz : Nat → Nat) (ce : Nat → Nat → Int32) : Prop := ∀ j, j < 4 → I (10 * (10 + 2 * j) + 1) = la j ∧ (I (10 * (10 + 2 * j) + 2) = nI (sz j) ∧ sz j ≤ 64) ∧ ∀ i, i < 64 → a (10 + 2 * j + 1) i = ce j i
def CI (X : CX) (I : Nat → Int32) (a : Nat → Nat → Int32) (nb : Nat) (T : Nat → TX) (tl : Nat) (tb : Nat → Nat) (ft : Int32) (la : Nat → Int32) (sz : Nat → Nat) (ce : Nat → Nat → Int32) : Prop := CBs X I a nb T ∧ CFl I a ∧ CTp I a tl tb ∧ I 4 = ft ∧ CSh I a la sz ce
section CIS
variable {X : CX} {I I' : Nat → Int32} {a a' : Nat → Nat → Int32} {nb : Nat} {T : Nat → TX} {tl : Nat} {tb : Nat → Nat} {ft : Int32} {la : Nat → Int32} {sz : Nat → Nat} {ce : Nat → Nat → Int32} {b : Nat} {t : TX}
theorem CBd_cong (hI : ∀ j, j < 10 → I' (10 * (18 + 3 * b) + j) = I (10 * (18 + 3 * b) + j)) (h1 : a' (18 + 3 * b + 1) = a (18 + 3 * b + 1)) (h2 : a' (18 + 3 * b + 2) = a (18 + 3 * b + 2)) (h : CBd X I a b t) : CBd X I' a' b t := by
  unfold CBd at *
  rw [hI 1 (by decide), hI 3 (by decide), hI 5 (by decide), h1, h2]
  exact h
/-- a body's own cells change: all else stays -/
theorem CI_bd (h : CI X I a nb T tl tb ft la sz ce) (hb : b < nb) (hI : ∀ k, (k < 10 * (18 + 3 * b) ∨ 10 * (18 + 3 * b) + 10 ≤ k) → I' k = I k) (ha : ∀ k, k ≠ 18 + 3 * b + 1 → k ≠ 18 + 3 * b + 2 → a' k = a k) (hd : CBd X I' a' b (T b)) : CI X I' a' nb T tl tb ft la sz ce := by
  obtain ⟨⟨h1, h2, h3, h4, h5⟩, h6, h7, h8, h9⟩ := h
  refine ⟨⟨by rw [hI 3 (by omega)]; exact h1, h2, h3, h4, fun c hc => ?_⟩, ⟨?_, ?_⟩, ?_, by rw [hI 4 (by omega)]; exact h8, fun j hj => ?_⟩
  · by_cases e : c = b
    · rw [e]; exact hd
    · exact CBd_cong (fun j hj => hI _ (by omega)) (ha _ (by omega) (by omega)) (ha _ (by omega) (by omega)) (h5 c hc)
  · rw [hI 51 (by omega), hI 54 (by omega), hI 55 (by omega)]; exact h6.1
  · rw [ha 7 (by omega) (by omega)]; exact h6.2
  · unfold CTp
    rw [hI 11 (by omega), ha 2 (by omega) (by omega)]
    exact h7
  · rw [hI _ (by omega), hI _ (by omega), ha _ (by omega) (by omega)]
    exact h9 j hj
/-- the flood's own cells change -/
theorem CI_fl (h : CI X I a nb T tl tb ft la sz ce) (hI : ∀ k, (k < 50 ∨ 60 ≤ k) → I' k = I k) (ha : ∀ k, (k < 6 ∨ 8 < k) → a' k = a k) (hf : CFl I' a') : CI X I' a' nb T tl tb ft la sz ce := by
  obtain ⟨⟨h1, h2, h3, h4, h5⟩, h6, h7, h8, h9⟩ := h
  refine ⟨⟨by rw [hI 3 (by omega)]; exact h1, h2, h3, h4, fun c hc => CBd_cong (fun j hj => hI _ (by omega)) (ha _ (by omega)) (ha _ (by omega)) (h5 c hc)⟩, hf, ?_, by rw [hI 4 (by omega)]; exact h8, fun j hj => ?_⟩
  · unfold CTp
    rw [hI 11 (by omega), ha 2 (by omega)]
    exact h7
  · rw [hI _ (by omega), hI _ (by omega), ha _ (by omega)]
    exact h9 j hj
theorem rwA_cong {f g : Nat → Int32} (h : ∀ q, q < 225 → f q = g q) : rwA f = rwA g := by
  funext y z
  unfold rwA
  split
  · exact h _ (by omega)
  · rfl
end CIS
section PNT
variable {p : Program} {l : Launch} {e : Env} {RM : Room} {s : State} {m : MethodId} {args : Array Value} {below : List Frame} {meth : Method} {c : Code} {H H0 : Heap} {locs : List Loc} {cells slots : Nat} {Q : State → Prop} {cc : ByteArray} {pc nL : Nat} {ls : Array Slot} {rest : List Value} {own : String}
variable {D : va_G} {cT : Nat → ClassId} {A : Nat → Prop} {X : CX} {I : Nat → Int32} {a : Nat → Nat → Int32}
theorem paint_any {np index : Nat} {t : TX} (hC : CallFix p m c cc nL s args GW own) (hK : KE D cT s) (hM : CO D cT A X I a H0 H locs) (b : Nat) (hbn : b < X.2.2.2.1) (hcb : CBd X I a b t) (hwl : Cond.methodLink own index y_Bo_paint ∈ GW) (hR : 24 + 1 ≤ RM.frames ∧ 8 + (4 + 11) + 820 ≤ RM.locals) (hsz : ls.size = nL) (hcat : (rest.map fun v => v.category).sum ≤ 8) (hf : cells ≤ RM.cells ∧ slots ≤ RM.slots) (hdg : decode cc pc = .ok (.invokevirtual index, 3))
    (kk : ∀ (f : Nat → Int32) (H1 : Heap) (locs1 : List Loc), (∀ q, q < 225 → f q = rwI (VF t) q) → CO D cT A X (upd I (10 * (18 + 3 * b) + 3) 1) (va_up a (18 + 3 * b + 1) f) H0 H1 locs1 → W p l e RM s m args below meth c H1 locs1 cells slots Q (F0 m (pc + 3) ls rest)) : W p l e RM s m args below meth c H locs cells slots Q (F0 m pc ls (.ref (X.1 (18 + 3 * b)) :: rest)) := by
  obtain ⟨h1, h2, h3, h4, h5, h6⟩ := hcb
  rcases h5 with h5 | ⟨h5, h5'⟩
  · refine co_callv (np := 0) hC hK hM (k := 18 + 3 * b) (by omega) (cE_B b) rfl (c_Bo_paint_n l D cT X I a b t.2.1 t.2.2.1 hbn h5 h1 h2) rfl ⟨hwl, wi_Bo_paint, ws_Bo_paint, wc_Bo_paint, wn_Bo⟩ ⟨by decide, by decide, by decide +kernel⟩ hR hsz rfl (rest := rest) rfl hcat hf hdg (fun I1 a1 H1 locs1 hp hM1 => ?_)
    cases hp
    refine kk _ H1 locs1 (fun q hq => ?_) hM1
    show pt _ _ 0 225 q = _
    unfold pt
    rw [if_pos (by omega)]
    rfl
  · refine co_callv (np := 0) hC hK hM (k := 18 + 3 * b) (by omega) (cE_B b) rfl (c_Bo_paint_y l D cT X I a b hbn h5) rfl ⟨hwl, wi_Bo_paint, ws_Bo_paint, wc_Bo_paint, wn_Bo⟩ ⟨by decide, by decide, by decide +kernel⟩ hR hsz rfl (rest := rest) rfl hcat hf hdg (fun I1 a1 H1 locs1 hp hM1 => ?_)
    cases hp
    refine kk (a (18 + 3 * b + 1)) H1 locs1 h5' ?_
    rw [up_same2 (f := a) (k := 18 + 3 * b + 1) (x := a (18 + 3 * b + 1)) rfl]
    exact hM1
end PNT
theorem CI_paint {X : CX} {I : Nat → Int32} {a : Nat → Nat → Int32} {nb : Nat} {T : Nat → TX} {tl : Nat} {tb : Nat → Nat} {ft : Int32} {la : Nat → Int32} {sz : Nat → Nat} {ce : Nat → Nat → Int32} {b : Nat} {f : Nat → Int32} (h : CI X I a nb T tl tb ft la sz ce) (hb : b < nb) (hf : ∀ q, q < 225 → f q = rwI (VF (T b)) q) : CI X (upd I (10 * (18 + 3 * b) + 3) 1) (va_up a (18 + 3 * b + 1) f) nb T tl tb ft la sz ce := by
  refine CI_bd h hb (fun k hk => pk_un (by omega)) (fun k h1 h2 => va_up_ne _ _ h1) ?_
  obtain ⟨h1, h2, h3, h4, h5, h6⟩ := h.1.2.2.2.2 b hb
  refine ⟨h1, h2, h3, ?_, Or.inr ⟨pk_us, ?_⟩, ?_⟩
  · rw [pk_un (by omega)]; exact h4
  · rw [va_up_self]; exact hf
  · rw [pk_un (by omega), va_up_ne _ _ (by omega)]; exact h6
set_option maxHeartbeats 400000 in
set_option maxRecDepth 100000 in
theorem c_So_bodyNumber_y (l : Launch) (D : va_G) (cT : Nat → ClassId) (X : CX) (I : Nat → Int32) (a : Nat → Nat → Int32) (b : Nat) (nb : Nat) (hbb : b < nb) (hI3 : I 3 = nI nb) (h8 : nb ≤ 8) (hbo : ∀ b, b < nb → X.2.2.1 b = some (X.1 (18 + 3 * b))) : RDq l D cT (cw cT X I a) y_So_bodyNumber b_So_bodyNumber 2 (some (.object "SignSolids$Body")) 0 0 [.ref (X.1 0), .int (nI b)] (fun o => o = some (X.1 (18 + 3 * b))) := by
  refine rd_entq (own := R_So) (by decide) rfl (Nat.le_of_ble_eq_true rfl) ?_
  intro p e s m args below meth c Q hC hK hP hret ls hl
  have hx := hC.1
  have hb := hC.2.1
  replace hl : lv_has ls 2 [(0, .ref (X.1 0)), (1, .int (nI b))] := hl
  refine lv_iload_n hx hb d_So_bodyNumber_0 rfl (lv_at hl 1 rfl) ?_
  refine zz_lt hx hb (↑b : Int) (by omega) (by omega) d_So_bodyNumber_1 (tgt := 27) (by decide) (fun h1 => ?_) (fun h1 => ?_)
  · skip
    refine lv_null hx hb d_So_bodyNumber_27 ?_
    exact hret _ _ _ (none) d_So_bodyNumber_28 rfl (by exfalso; omega)
  · skip
    refine lv_iload_n hx hb d_So_bodyNumber_4 rfl (lv_at hl 1 rfl) ?_
    refine lv_aload_n hx hb d_So_bodyNumber_5 rfl (lv_at hl 0 rfl) ?_
    refine rd_get hC in_So hK hP 0 (cw_he (by omega) (cE_0)) rfl 3 (by decide) wf_So_31 rfl (v := .int (nI nb)) (congrArg (fun z : Int32 => some (Value.int z)) (hI3)) d_So_bodyNumber_6 ?_
    refine nc_ge hx hb b nb (by omega) (by omega) d_So_bodyNumber_9 (tgt := 27) (by decide) (fun h2 => ?_) (fun h2 => ?_)
    · skip
      refine lv_null hx hb d_So_bodyNumber_27 ?_
      exact hret _ _ _ (none) d_So_bodyNumber_28 rfl (by exfalso; omega)
    · skip
      refine lv_iload_n hx hb d_So_bodyNumber_12 rfl (lv_at hl 1 rfl) ?_
      refine lv_bipush (v := 8) hx hb d_So_bodyNumber_13 (by decide) ?_
      refine nc_ge hx hb b 8 (by omega) (by omega) d_So_bodyNumber_15 (tgt := 27) (by decide) (fun h3 => ?_) (fun h3 => ?_)
      · skip
        refine lv_null hx hb d_So_bodyNumber_27 ?_
        exact hret _ _ _ (none) d_So_bodyNumber_28 rfl (by exfalso; omega)
      · skip
        refine lv_aload_n hx hb d_So_bodyNumber_18 rfl (lv_at hl 0 rfl) ?_
        refine rd_get hC in_So hK hP 0 (cw_he (by omega) (cE_0)) rfl 2 (by decide) wf_So_27 rfl (v := .ref (X.1 4)) (rfl) d_So_bodyNumber_19 ?_
        refine lv_iload_n hx hb d_So_bodyNumber_22 rfl (lv_at hl 1 rfl) ?_
        refine rd_aald hC hK hP 4 4 (cw_he (by omega) (cE_4)) rfl b (i := nI b) (rfl) (by omega) (by decide) (v := .ref (X.1 (18 + 3 * b))) (congrArg va_rf (hbo b (by omega))) d_So_bodyNumber_23 ?_
        refine lv_goto (tgt := 28) hx hb d_So_bodyNumber_24 (by decide) ?_
        exact hret _ _ _ (some (X.1 (18 + 3 * b))) d_So_bodyNumber_28 rfl (rfl)
set_option maxHeartbeats 400000 in
set_option maxRecDepth 100000 in
theorem c_So_bodyNumber_n (l : Launch) (D : va_G) (cT : Nat → ClassId) (X : CX) (I : Nat → Int32) (a : Nat → Nat → Int32) (b : Int32) (nb : Nat) (hbb : ¬ (0 ≤ b.toInt ∧ b.toInt < nb)) (hI3 : I 3 = nI nb) (h8 : nb ≤ 8) : RDq l D cT (cw cT X I a) y_So_bodyNumber b_So_bodyNumber 2 (some (.object "SignSolids$Body")) 0 0 [.ref (X.1 0), .int b] (fun o => o = none) := by
  refine rd_entq (own := R_So) (by decide) rfl (Nat.le_of_ble_eq_true rfl) ?_
  intro p e s m args below meth c Q hC hK hP hret ls hl
  have hx := hC.1
  have hb := hC.2.1
  replace hl : lv_has ls 2 [(0, .ref (X.1 0)), (1, .int b)] := hl
  refine lv_iload_n hx hb d_So_bodyNumber_0 rfl (lv_at hl 1 rfl) ?_
  refine yz_lt hx hb b.toInt (rfl) d_So_bodyNumber_1 (tgt := 27) (by decide) (fun h1 => ?_) (fun h1 => ?_)
  · skip
    refine lv_null hx hb d_So_bodyNumber_27 ?_
    exact hret _ _ _ (none) d_So_bodyNumber_28 rfl (by first | rfl | (exfalso; omega))
  · skip
    refine lv_iload_n hx hb d_So_bodyNumber_4 rfl (lv_at hl 1 rfl) ?_
    refine lv_aload_n hx hb d_So_bodyNumber_5 rfl (lv_at hl 0 rfl) ?_
    refine rd_get hC in_So hK hP 0 (cw_he (by omega) (cE_0)) rfl 3 (by decide) wf_So_31 rfl (v := .int (nI nb)) (congrArg (fun z : Int32 => some (Value.int z)) (hI3)) d_So_bodyNumber_6 ?_
    refine yc_ge hx hb b.toInt (↑nb : Int) (rfl) (iI_toInt (z := (↑nb : Int)) (by omega) (by omega)) d_So_bodyNumber_9 (tgt := 27) (by decide) (fun h2 => ?_) (fun h2 => ?_)
    · skip
      refine lv_null hx hb d_So_bodyNumber_27 ?_
      exact hret _ _ _ (none) d_So_bodyNumber_28 rfl (by first | rfl | (exfalso; omega))
    · skip
      refine lv_iload_n hx hb d_So_bodyNumber_12 rfl (lv_at hl 1 rfl) ?_
      refine lv_bipush (v := 8) hx hb d_So_bodyNumber_13 (by decide) ?_
      refine yc_ge hx hb b.toInt 8 (rfl) (rfl) d_So_bodyNumber_15 (tgt := 27) (by decide) (fun h3 => ?_) (fun h3 => ?_)
      · skip
        refine lv_null hx hb d_So_bodyNumber_27 ?_
        exact hret _ _ _ (none) d_So_bodyNumber_28 rfl (by first | rfl | (exfalso; omega))
      · skip
        refine lv_aload_n hx hb d_So_bodyNumber_18 rfl (lv_at hl 0 rfl) ?_
        refine rd_get hC in_So hK hP 0 (cw_he (by omega) (cE_0)) rfl 2 (by decide) wf_So_27 rfl (v := .ref (X.1 4)) (rfl) d_So_bodyNumber_19 ?_
        refine lv_iload_n hx hb d_So_bodyNumber_22 rfl (lv_at hl 1 rfl) ?_
        refine rd_aald hC hK hP 4 4 (cw_he (by omega) (cE_4)) rfl 0 (i := b) (by exfalso; omega) (by decide) (by decide) (v := .null) (by exfalso; omega) d_So_bodyNumber_23 ?_
        refine lv_goto (tgt := 28) hx hb d_So_bodyNumber_24 (by decide) ?_
        exact hret _ _ _ (none) d_So_bodyNumber_28 rfl (by first | rfl | (exfalso; omega))
set_option maxHeartbeats 400000 in
set_option maxRecDepth 100000 in
theorem c_So_paintedBody_y (l : Launch) (D : va_G) (cT : Nat → ClassId) (X : CX) (I : Nat → Int32) (a : Nat → Nat → Int32) (b : Nat) (nb : Nat) (T : Nat → TX) (tl : Nat) (tb : Nat → Nat) (ft : Int32) (la : Nat → Int32) (szz : Nat → Nat) (ce : Nat → Nat → Int32) (hCI : CI X I a nb T tl tb ft la szz ce) (hbb : b < nb) : CMq l D cT X y_So_paintedBody b_So_paintedBody 3 (some (.object "SignSolids$Body")) 25 843 [.ref (X.1 0), .int (nI b)] I a (fun o u => o = some (X.1 (18 + 3 * b)) ∧ CI X u.1 u.2 nb T tl tb ft la szz ce ∧ (∀ q, q < 225 → u.2 (18 + 3 * b + 1) q = rwI (VF (T b)) q) ∧ ∀ c, c < nb → (∀ q, q < 225 → a (18 + 3 * c + 1) q = rwI (VF (T c)) q) → ∀ q, q < 225 → u.2 (18 + 3 * c + 1) q = rwI (VF (T c)) q) := by
  refine co_entq (own := R_So) (by decide) rfl (Nat.le_of_ble_eq_true rfl) ?_
  intro p e s m args below meth c Q hC hK hM hret ls hl
  have hx := hC.1
  have hb := hC.2.1
  replace hl : lv_has ls 3 [(0, .ref (X.1 0)), (1, .int (nI b))] := hl
  refine lv_aload_n hx hb d_So_paintedBody_0 rfl (lv_at hl 0 rfl) ?_
  refine lv_iload_n hx hb d_So_paintedBody_1 rfl (lv_at hl 1 rfl) ?_
  refine rd_callq (np := 1) hC hK hM.1 (cw_he (by omega) (cE_0)) rfl (c_So_bodyNumber_y l D cT X I a b nb (by omega) (hCI.1.1) hCI.1.2.2.1 hCI.1.2.2.2.1) rfl ⟨wl_So_79, wi_So_bodyNumber, ws_So_bodyNumber, wc_So_bodyNumber, wn_So⟩ ⟨by decide, by decide, by decide +kernel⟩ ⟨Nat.le_of_ble_eq_true rfl, Nat.le_of_ble_eq_true rfl⟩ hl.1 rfl (rest := []) rfl (Nat.le_of_ble_eq_true rfl) ⟨Nat.zero_le _, Nat.zero_le _⟩ d_So_paintedBody_2 (fun rr hrr => ?_)
  subst hrr
  refine lv_astore_n (lv' := [(2, .ref (X.1 (18 + 3 * b))), (0, .ref (X.1 0)), (1, .int (nI b))]) hx hb d_So_paintedBody_5 rfl hl (by decide) rfl (fun ls hl => ?_)
  refine lv_aload_n hx hb d_So_paintedBody_6 rfl (lv_at hl 0 rfl) ?_
  refine lv_ifnull hx hb d_So_paintedBody_7 ?_
  refine lv_aload_n hx hb d_So_paintedBody_10 rfl (lv_at hl 0 rfl) ?_
  have hcb := hCI.1.2.2.2.2 b hbb
  refine paint_any (np := 0) hC hK hM b (by rw [hCI.1.2.1]; exact hbb) hcb wl_So_213 ⟨Nat.le_of_ble_eq_true rfl, Nat.le_of_ble_eq_true rfl⟩ hl.1 (rest := []) (Nat.le_of_ble_eq_true rfl) ⟨Nat.zero_le _, Nat.zero_le _⟩ d_So_paintedBody_11 (fun f9 H locs hf9 hM => ?_)
  refine lv_aload_n hx hb d_So_paintedBody_14 rfl (lv_at hl 0 rfl) ?_
  exact hret _ _ _ (some (X.1 (18 + 3 * b))) _ _ _ _ d_So_paintedBody_15 rfl hM (⟨rfl, CI_paint hCI hbb hf9, by show ∀ q, q < 225 → va_up a (18 + 3 * b + 1) f9 (18 + 3 * b + 1) q = _; rw [va_up_self]; exact hf9, fun c9 _ h9 => by by_cases z9 : c9 = b; (subst z9; show ∀ q, q < 225 → va_up a (18 + 3 * c9 + 1) f9 (18 + 3 * c9 + 1) q = _; rw [va_up_self]; exact hf9); (show ∀ q, q < 225 → va_up a (18 + 3 * b + 1) f9 (18 + 3 * c9 + 1) q = _; rw [va_up_ne _ _ (by omega)]; exact h9)⟩)
set_option maxHeartbeats 400000 in
set_option maxRecDepth 100000 in
theorem c_So_paintedBody_n (l : Launch) (D : va_G) (cT : Nat → ClassId) (X : CX) (I : Nat → Int32) (a : Nat → Nat → Int32) (b : Int32) (nb : Nat) (T : Nat → TX) (tl : Nat) (tb : Nat → Nat) (ft : Int32) (la : Nat → Int32) (szz : Nat → Nat) (ce : Nat → Nat → Int32) (hCI : CI X I a nb T tl tb ft la szz ce) (hbb : ¬ (0 ≤ b.toInt ∧ b.toInt < nb)) : CMq l D cT X y_So_paintedBody b_So_paintedBody 3 (some (.object "SignSolids$Body")) 25 843 [.ref (X.1 0), .int b] I a (fun o u => o = none ∧ u = (I, a)) := by
  refine co_entq (own := R_So) (by decide) rfl (Nat.le_of_ble_eq_true rfl) ?_
  intro p e s m args below meth c Q hC hK hM hret ls hl
  have hx := hC.1
  have hb := hC.2.1
  replace hl : lv_has ls 3 [(0, .ref (X.1 0)), (1, .int b)] := hl
  refine lv_aload_n hx hb d_So_paintedBody_0 rfl (lv_at hl 0 rfl) ?_
  refine lv_iload_n hx hb d_So_paintedBody_1 rfl (lv_at hl 1 rfl) ?_
  refine rd_callq (np := 1) hC hK hM.1 (cw_he (by omega) (cE_0)) rfl (c_So_bodyNumber_n l D cT X I a b nb hbb (hCI.1.1) hCI.1.2.2.1) rfl ⟨wl_So_79, wi_So_bodyNumber, ws_So_bodyNumber, wc_So_bodyNumber, wn_So⟩ ⟨by decide, by decide, by decide +kernel⟩ ⟨Nat.le_of_ble_eq_true rfl, Nat.le_of_ble_eq_true rfl⟩ hl.1 rfl (rest := []) rfl (Nat.le_of_ble_eq_true rfl) ⟨Nat.zero_le _, Nat.zero_le _⟩ d_So_paintedBody_2 (fun rr hrr => ?_)
  subst hrr
  refine lv_astore_nN (lv' := [(2, .null), (0, .ref (X.1 0)), (1, .int b)]) hx hb d_So_paintedBody_5 rfl hl (by decide) rfl (fun ls hl => ?_)
  refine lv_aload_nN hx hb d_So_paintedBody_6 rfl (lv_at hl 0 rfl) ?_
  refine lv_ifnullN (tgt := 14) hx hb d_So_paintedBody_7 (by decide) ?_
  refine lv_aload_nN hx hb d_So_paintedBody_14 rfl (lv_at hl 0 rfl) ?_
  exact hret _ _ _ (none) _ _ _ _ d_So_paintedBody_15 rfl hM (⟨rfl, rfl⟩)
