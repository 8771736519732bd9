/-! the class: body, drop -/
section CIN
variable {X : CX} {I I' : Nat → Int32} {a : Nat → Nat → Int32} {nb : Nat} {T : Nat → TX} {tl : Nat} {tb : Nat → Nat} {ft : Int32} {la : Nat → Int32} {sz : Nat → Nat} {ce : Nat → Nat → Int32}
theorem CI_rd {F G : va_W} {ft' : Int32} (h : CI X I a nb T tl tb ft la sz ce) (hI : ∀ q, ¬ (31 ≤ q ∧ q ≤ 37) → q ≠ 4 → q ≠ 11 → I' q = I q) (h4 : I' 4 = ft') (h11 : I' 11 = 0) (hF : F = X.2.2.2.2 ++ G) : CI (XF X F) I' a nb T 0 tb ft' la sz ce := by
  obtain ⟨⟨h1, h2, h3, h5, h6⟩, h7, h8, h9, h10⟩ := h
  refine ⟨⟨by rw [hI 3 (by omega) (by omega) (by omega)]; exact h1, h2, h3, h5, fun b hb => ?_⟩, ⟨?_, h7.2⟩, ⟨h11, by omega, fun j hj => by omega⟩, h4, fun j hj => ?_⟩
  · obtain ⟨g1, g2, g3, g4, g5, g6⟩ := h6 b hb
    refine ⟨?_, g2, g3, ?_, ?_, ?_⟩
    · show FT F _ _ 10 0 (X.2.1 (18 + 3 * b))
      rw [hF]
      exact FT_sub (fun x hx => List.mem_append_left _ hx) g1
    · rw [hI _ (by omega) (by omega) (by omega)]; exact g4
    · rw [hI _ (by omega) (by omega) (by omega)]; exact g5
    · rw [hI _ (by omega) (by omega) (by omega)]; exact g6
  · rw [hI 51 (by omega) (by omega) (by omega), hI 54 (by omega) (by omega) (by omega), hI 55 (by omega) (by omega) (by omega)]; exact h7.1
  · rw [hI _ (by omega) (by omega) (by omega), hI _ (by omega) (by omega) (by omega)]
    exact h10 j hj
theorem CI_new {qb q1 q2 r : Nat} {t : TX} (h : CI X I a nb T tl tb ft la sz ce) (hnb : nb < 8) (hFT : FT X.2.2.2.2 t.2.1 t.2.2.1 10 0 r) (hrp : rpOk t.2.1 t.2.2.1) (hE : ∀ B, evF t.2.1 t.2.2.1 10 0 B = spT t B) (ht : t.1 ≤ 64) : CI (XR (XB X nb qb q1 q2 r) (va_up X.2.2.1 nb (some qb))) (upd (IB I nb (nI t.1)) 3 (nI (nb + 1))) (aB a nb) (nb + 1) (fun b => if b = nb then t else T b) tl tb ft la sz ce := by
  obtain ⟨⟨h1, h2, h3, h5, h6⟩, h7, h8, h9, h10⟩ := h
  have eI : ∀ k, k < 10 * (18 + 3 * nb) + 1 → k ≠ 3 → upd (IB I nb (nI t.1)) 3 (nI (nb + 1)) k = I k := fun k hk h3 => by rw [pk_un h3, IB_lt hk]
  refine ⟨⟨pk_us, rfl, by omega, fun b hb => ?_, fun b hb => ?_⟩, ⟨?_, ?_⟩, ?_, ?_, fun j hj => ?_⟩
  · show va_up X.2.2.1 nb (some qb) b = some ((XB X nb qb q1 q2 r).1 (18 + 3 * b))
    by_cases e : b = nb
    · rw [e, va_up_self, XB_0]
    · rw [va_up_ne _ _ e, XB_lt (by omega)]
      exact h5 b (by omega)
  · by_cases e : b = nb
    · subst e
      show CBd _ _ _ b (if b = b then t else T b)
      rw [if_pos rfl]
      have k1 : IB I b (nI t.1) (10 * (18 + 3 * b) + 1) = nI t.1 := by
        unfold IB
        rw [pk_un (by omega), pk_un (by omega), pk_us]
      have k3 : IB I b (nI t.1) (10 * (18 + 3 * b) + 3) = 0 := by
        unfold IB
        rw [pk_un (by omega), pk_us]
      have k5 : IB I b (nI t.1) (10 * (18 + 3 * b) + 5) = 0 := by
        unfold IB
        rw [pk_us]
      refine ⟨?_, hrp, hE, ⟨?_, ht⟩, Or.inl ?_, Or.inl ⟨?_, ?_⟩⟩
      · show FT X.2.2.2.2 _ _ 10 0 ((XB X b qb q1 q2 r).2.1 (18 + 3 * b))
        rw [XB_r]
        exact hFT
      · rw [pk_un (by omega)]; exact k1
      · rw [pk_un (by omega)]; exact k3
      · rw [pk_un (by omega)]; exact k5
      · intro i hi
        unfold aB
        rw [va_up_self]
        rfl
    · show CBd _ _ _ b (if b = nb then t else T b)
      rw [if_neg e]
      obtain ⟨g1, g2, g3, g4, g5, g6⟩ := h6 b (by omega)
      refine ⟨?_, g2, g3, ?_, ?_, ?_⟩
      · show FT X.2.2.2.2 _ _ 10 0 ((XB X nb qb q1 q2 r).2.1 (18 + 3 * b))
        rw [XB_f (by omega)]
        exact g1
      · rw [eI _ (by omega) (by omega)]; exact g4
      · rw [eI _ (by omega) (by omega), aB_lt (by omega)]; exact g5
      · rw [eI _ (by omega) (by omega), aB_lt (by omega)]; exact g6
  · rw [eI 51 (by omega) (by omega), eI 54 (by omega) (by omega), eI 55 (by omega) (by omega)]; exact h7.1
  · rw [aB_lt (by omega)]; exact h7.2
  · unfold CTp
    rw [eI 11 (by omega) (by omega), aB_lt (by omega)]
    exact h8
  · rw [eI 4 (by omega) (by omega)]; exact h9
  · rw [eI _ (by omega) (by omega), eI _ (by omega) (by omega), aB_lt (by omega)]
    exact h10 j hj
theorem CI_drop {f : Nat → Option Nat} (h : CI X I a nb T tl tb ft la sz ce) (h0 : 0 < nb) (hf : ∀ b, b < nb - 1 → f b = X.2.2.1 b) : CI (XN (XR X f) (nb - 1)) (upd I 3 (nI (nb - 1))) a (nb - 1) T tl tb ft la sz ce := by
  obtain ⟨⟨h1, h2, h3, h5, h6⟩, h7, h8, h9, h10⟩ := h
  have eI : ∀ k, k ≠ 3 → upd I 3 (nI (nb - 1)) k = I k := fun k h3 => pk_un h3
  refine ⟨⟨pk_us, rfl, by omega, fun b hb => ?_, fun b hb => ?_⟩, ⟨?_, h7.2⟩, ?_, ?_, fun j hj => ?_⟩
  · exact (hf b hb).trans (h5 b (by omega))
  · obtain ⟨g1, g2, g3, g4, g5, g6⟩ := h6 b (by omega)
    refine ⟨g1, g2, g3, ?_, ?_, ?_⟩
    · rw [eI _ (by omega)]; exact g4
    · rw [eI _ (by omega)]; exact g5
    · rw [eI _ (by omega)]; exact g6
  · rw [eI 51 (by omega), eI 54 (by omega), eI 55 (by omega)]; exact h7.1
  · unfold CTp
    rw [eI 11 (by omega)]
    exact h8
  · rw [eI 4 (by omega)]; exact h9
  · rw [eI _ (by omega), eI _ (by omega)]
    exact h10 j hj
end CIN
theorem prs_kd {tl : Nat} {tb : Nat → Nat} : ∀ (d ov : Nat) (s s' : PS), (∀ j, s.many ≤ j → s.kd j = 0) → prs tl tb d ov s = .inr s' → ∀ j, s'.many ≤ j → s'.kd j = 0
  | 0, _, _, _, _, h => by cases h
  | d + 1, ov, s, s', h0, h => by
    cases ho : oneP tl tb ov s with
    | inl f => rw [prs_f ho] at h; cases h
    | inr s1 =>
      have h1 : ∀ j, s1.many ≤ j → s1.kd j = 0 := by
        unfold oneP at ho
        by_cases c : s.t.1 = 1
        · rw [if_neg (fun z => z c)] at ho
          cases hn : numP tl tb (rul s) (nOf (rul s)) 0 (tok tl tb s.t.2.2.1) (fun _ => 0) with
          | inl f => rw [hn] at ho; cases ho
          | inr q =>
            rw [hn] at ho
            cases ho
            intro j hj
            have hj : s.many + 1 ≤ j := hj
            show (if j = s.many then rul s else s.kd j) = 0
            rw [if_neg (by omega)]
            exact h0 j (by omega)
        · rw [if_pos c] at ho; cases ho
      by_cases c3 : rul s < 3
      · rw [prs_0 ho c3] at h; cases h; exact h1
      · by_cases c6 : rul s < 6
        · rw [prs_2 ho c3 c6] at h
          cases hp : prs tl tb d s.many s1 with
          | inl f => rw [hp] at h; cases h
          | inr s2 =>
            rw [hp] at h
            exact prs_kd d _ _ _ (prs_kd d _ _ _ h1 hp) h
        · rw [prs_1 ho c6] at h
          exact prs_kd d _ _ _ h1 h
theorem txt_ok {tl : Nat} {tb : Nat → Nat} (h160 : tl ≤ 160) {s : PS} (h : prW tl tb = .inr s) : rpOk (txt s).2.1 (txt s).2.2.1 ∧ (∀ B, evF (txt s).2.1 (txt s).2.2.1 10 0 B = spT (txt s) B) ∧ (txt s).1 ≤ 64 := by
  obtain ⟨h1, h2, h3, h4⟩ := prW_ok h160 h
  refine ⟨⟨fun k i => ?_, fun k hk => ?_⟩, fun B => WT_spn (by show s.many ≤ 64; omega) h2 B, by show s.many ≤ 64; omega⟩
  · show -20 ≤ (if k < s.many then s.nb k i else 0) ∧ (if k < s.many then s.nb k i else 0) ≤ 20
    split
    · exact (h4 k (by assumption)).2.1 i
    · omega
  · have hk : s.kd k = 9 := hk
    show 1 ≤ (if k < s.many then s.nb k 0 else 0)
    by_cases c : k < s.many
    · rw [if_pos c]; exact (h4 k c).2.2.1 hk
    · have := prs_kd 10 0 _ s (fun _ _ => rfl) h1 k (by omega)
      omega
theorem txt_FT {tl : Nat} {tb : Nat → Nat} (h160 : tl ≤ 160) {s : PS} {w : va_W} {r : Nat} (h : prW tl tb = .inr s) (hF : FT w s.kd s.nb 10 0 r) : FT w (txt s).2.1 (txt s).2.2.1 10 0 r := by
  obtain ⟨h1, h2, h3, h4⟩ := prW_ok h160 h
  refine FT_cong 10 0 r s.many h2 (fun j _ hj => ⟨rfl, ?_⟩) hF
  funext i
  exact if_pos hj
def cbB (D : va_G) (cT : Nat → ClassId) (A : Nat → Prop) (u : CX × (Nat → Int32) × (Nat → Nat → Int32)) (t : State) : Prop := va_P D classes (cw cT u.1 u.2.1 u.2.2) t.heap ∧ va_D A (cw cT u.1 u.2.1 u.2.2)
def CBi (l : Launch) (D : va_G) (cT : Nat → ClassId) (X : CX) (y : MethodName) (b : ByteArray) (n : Nat) (r : Option FieldType) (fr lo mc ms : Nat) (av : List Value) (I : Nat → Int32) (a : Nat → Nat → Int32) (sz : Nat) (adK adV : Nat → Nat) (N0 : Nat) (post : Int32 → CX × (Nat → Int32) × (Nat → Nat → Int32) → Prop) : Prop := Met l y (wm y b n r) (rmA fr lo mc ms) (caPc D cT X I a av sz adK adV N0) (va_Qi post (cbB D cT (cA X sz)) (cA X sz)) mc ms (cA X sz)
theorem cb_enti {l : Launch} {D : va_G} {cT : Nat → ClassId} {X : CX} {I : Nat → Int32} {a : Nat → Nat → Int32} {adK adV : Nat → Nat} {N0 : Nat} {own : String} {y : MethodName} {b : ByteArray} {n fr lo mc ms sz : Nat} {av : List Value} {post : Int32 → CX × (Nat → Int32) × (Nat → Nat → Int32) → Prop} (hy : plainName y.cls = true) (ho : y.cls = own) (hlen : (lg_sl av).length ≤ n)
    (body : ∀ (p : Program) (e : Env) (s : State) (m : MethodId) (args : Array Value) (below : List Frame) (meth : Method) (c : Code) (Q : State → Prop), CallFix p m c b n s args GW own → KE D cT s → CO D cT (cA X sz) (XF X X.2.2.2.2) I a s.heap s.heap [] → SE adK adV N0 s → (∀ x, s.heap.size ≤ x → cA X sz x) → (∀ x, cA X sz x → CA X x ∨ N0 ≤ x) → (∀ (pc : Nat) (ls : Array Slot) (v : Int32) (X' : CX) (I' : Nat → Int32) (a' : Nat → Nat → Int32) (H : Heap) (locs : List Loc) (cells slots : Nat), decode b pc = .ok (.ireturn, 1) → NM D (cA X sz) (cw cT X' I' a') s.heap H locs → cells ≤ mc → slots ≤ ms → post v (X', I', a') → W p l e (rmA fr lo mc ms) s m args below meth c H locs cells slots Q (F0 m pc ls [.int v])) → ∀ ls : Array Slot, lv_has ls n (lv_args 0 av) →
      W p l e (rmA fr lo mc ms) s m args below meth c s.heap [] 0 0 Q (F0 m 0 ls [])) : CBi l D cT X y b n (some .int) fr lo mc ms av I a sz adK adV N0 post := by
  refine Met.ofW (cc := b) (maxL := n) (ret := some .int) hy rfl ?_
  intro p e s m args below meth c s₁ B hml hv
  obtain ⟨hv, hsz, hP, hK, hD, hZ⟩ := hv
  subst hv
  subst hsz
  have hts := atoms_spec (ws := wm y b n (some .int)) B.pre
  rw [lg_entry_eq]
  exact body p e s m _ below meth c _ ⟨B.exec, B.bytes, hml, by rw [← ho]; exact findClass_of_methodNamed B.named, fun w h => hts w (List.mem_cons_of_mem _ h)⟩ hK ⟨hP, hD.weaken (fun _ _ _ h => Or.inl h), va_S.rf⟩ hZ (fun x hx => Or.inr hx) (fun x hx => hx.elim Or.inl (fun h => Or.inr (Nat.le_trans hZ.1 h))) (fun pc ls v X' I' a' H locs cells slots hdg hM h1 h2 hp => W.widen h1 h2 (W.iret B.exec B.bytes B.returns (fun t ht _ => ⟨⟨v, (X', I', a'), rfl, hp, by rw [ht]; exact hM.1, hM.2.1⟩, hM.2.2.F ht⟩) hM.2.2.2.2 hdg)) _ (lv_entry _ hlen)
set_option maxHeartbeats 1000000 in
set_option maxRecDepth 100000 in
theorem c_So_drop (l : Launch) (D : va_G) (cT : Nat → ClassId) (X : CX) (I : Nat → Int32) (a : Nat → Nat → Int32) (sz : Nat) (adK adV : Nat → Nat) (N0 : Nat) (nb : Nat) (T : Nat → TX) (tl : Nat) (tb : Nat → Nat) (ft : Int32) (la : Nat → Int32) (szz : Nat → Nat) (ce : Nat → Nat → Int32) (hCI : CI X I a nb T tl tb ft la szz ce) : CBi l D cT X y_So_drop b_So_drop 1 (some .int) 0 0 0 0 [.ref (X.1 0)] I a sz adK adV N0 (fun r u => u.1.1 0 = X.1 0 ∧ if nb = 0 then r = -4 ∧ u = (X, I, a) else r = nI (nb - 1) ∧ CI u.1 u.2.1 u.2.2 (nb - 1) T tl tb ft la szz ce) := by
  refine cb_enti (own := R_So) (by decide) rfl (Nat.le_of_ble_eq_true rfl) ?_
  intro p e s m args below meth c Q hC hK hM hZ hAs hA2 hret ls hl
  have hx := hC.1
  have hb := hC.2.1
  have h3 := hCI.1.1
  have hnX := hCI.1.2.1
  have hn8 := hCI.1.2.2.1
  replace hl : lv_has ls 1 [(0, .ref (X.1 0))] := hl
  refine lv_aload_n hx hb d_So_drop_0 rfl (lv_at hl 0 rfl) ?_
  refine rd_get hC in_So hK hM.1 0 (cw_he (by omega) (cE_0)) rfl 3 (by decide) wf_So_31 rfl (v := .int (nI nb)) (congrArg (fun z : Int32 => some (Value.int z)) (h3)) d_So_drop_1 ?_
  refine lv_iconst (v := 1) hx hb d_So_drop_4 (by decide) ?_
  refine nc_lt hx hb nb 1 (by omega) (by omega) d_So_drop_5 (tgt := 17) (by decide) (fun h1 => ?_) (fun h1 => ?_)
  · skip
    refine lv_bipush (v := (-4)) hx hb d_So_drop_17 (by decide) ?_
    exact hret _ _ _ _ _ _ _ _ _ _ d_So_drop_19 hM (by omega) (by omega) (⟨rfl, by rw [if_pos (by omega)]; exact ⟨rfl, rfl⟩⟩)
  · skip
    refine lv_aload_n hx hb d_So_drop_8 rfl (lv_at hl 0 rfl) ?_
    refine rd_get hC in_So hK hM.1 0 (cw_he (by omega) (cE_0)) rfl 3 (by decide) wf_So_31 rfl (v := .int (nI nb)) (congrArg (fun z : Int32 => some (Value.int z)) (h3)) d_So_drop_9 ?_
    refine lv_bipush (v := 8) hx hb d_So_drop_12 (by decide) ?_
    refine nc_le hx hb nb 8 (by omega) (by omega) d_So_drop_14 (tgt := 20) (by decide) (fun h2 => ?_) (fun h2 => ?_)
    · skip
      refine lv_aload_n hx hb d_So_drop_20 rfl (lv_at hl 0 rfl) ?_
      refine lv_dup hx hb d_So_drop_21 rfl ?_
      refine rd_get hC in_So hK hM.1 0 (cw_he (by omega) (cE_0)) rfl 3 (by decide) wf_So_31 rfl (v := .int (nI nb)) (congrArg (fun z : Int32 => some (Value.int z)) (h3)) d_So_drop_22 ?_
      refine lv_iconst (v := 1) hx hb d_So_drop_25 (by decide) ?_
      refine lv_isub hx hb d_So_drop_26 ?_
      refine topi_eq (iI_sub (↑nb : Int) 1) ?_
      refine topi_eq (show iI ((↑nb : Int) - 1) = nI (nb - 1) by rw [nI_iI]; congr 1; omega) ?_
      refine co_put hC in_So t_So t_So_ok n_So hK hM 0 (by omega) (cE_0) rfl 3 (by decide) wf_So_31 rfl rfl (ty := .int) (by decide +kernel) (x := nI (nb - 1)) rfl rfl (Nat.le_of_ble_eq_true rfl) (by decide) (rfl) d_So_drop_27 (fun H locs hM => ?_)
      replace hM : CO D cT (cA X sz) (XF X (X.2.2.2.2)) (upd I 3 (nI (nb - 1))) a s.heap H locs := hM
      refine lv_aload_n hx hb d_So_drop_30 rfl (lv_at hl 0 rfl) ?_
      refine rd_get hC in_So hK hM.1 0 (cw_he (by omega) (cE_0)) rfl 2 (by decide) wf_So_27 rfl (v := .ref (X.1 4)) (rfl) d_So_drop_31 ?_
      refine lv_aload_n hx hb d_So_drop_34 rfl (lv_at hl 0 rfl) ?_
      refine rd_get hC in_So hK hM.1 0 (cw_he (by omega) (cE_0)) rfl 3 (by decide) wf_So_31 rfl (v := .int (nI (nb - 1))) (congrArg (fun z : Int32 => some (Value.int z)) (pk_us)) d_So_drop_35 ?_
      refine lv_null hx hb d_So_drop_38 ?_
      have hM2 : NM D (cA X sz) (cw cT X (upd I 3 (nI (nb - 1))) a) s.heap H locs := hM
      refine nm_aastN hC hK hM2 4 4 (cw_he (by omega) cE_4) rfl (nb - 1) rfl (by omega) (by decide) d_So_drop_39 (fun H locs hM => ?_)
      rw [cw_set4] at hM
      have hM3 : CO D cT (cA X sz) (XR X (va_up X.2.2.1 (nb - 1) none)) (upd I 3 (nI (nb - 1))) a s.heap H locs := hM
      refine lv_aload_n hx hb d_So_drop_40 rfl (lv_at hl 0 rfl) ?_
      refine rd_get hC in_So hK hM3.1 0 (cw_he (by omega) (cE_0)) rfl 3 (by decide) wf_So_31 rfl (v := .int (nI (nb - 1))) (congrArg (fun z : Int32 => some (Value.int z)) pk_us) d_So_drop_41 ?_
      exact hret _ _ _ _ _ _ _ _ _ _ d_So_drop_44 (cb_drop (n := nb - 1) (by show nb - 1 ≤ X.2.2.2.1; omega) hM) (Nat.zero_le _) (Nat.zero_le _) ⟨rfl, by rw [if_neg (by omega)]; exact ⟨rfl, CI_drop hCI (by omega) (fun b9 hb9 => va_up_ne _ _ (by omega))⟩⟩
    · first | contradiction | (exfalso; omega)
set_option maxHeartbeats 2000000 in
set_option maxRecDepth 100000 in
theorem c_So_body (l : Launch) (D : va_G) (cT : Nat → ClassId) (X : CX) (I : Nat → Int32) (a : Nat → Nat → Int32) (sz : Nat) (adK adV : Nat → Nat) (N0 : Nat) (nb : Nat) (T : Nat → TX) (tl : Nat) (tb : Nat → Nat) (ft : Int32) (la : Nat → Int32) (szz : Nat → Nat) (ce : Nat → Nat → Int32) (hN : ∀ q, CA X q → N0 ≤ q) (hCI : CI X I a nb T tl tb ft la szz ce) : CBi l D cT X y_So_body b_So_body 2 (some .int) 19 470 111 884 [.ref (X.1 0)] I a sz adK adV N0 (fun r u => u.1.1 0 = X.1 0 ∧ if nb < 8 then (∀ f, prW tl tb = .inl f → r = iI (-10 - (f.2 : Int)) ∧ CI u.1 u.2.1 u.2.2 nb T 0 tb (nI f.1) la szz ce) ∧ (∀ s1, prW tl tb = .inr s1 → r = nI nb ∧ CI u.1 u.2.1 u.2.2 (nb + 1) (fun b => if b = nb then txt s1 else T b) 0 tb 0 la szz ce) else r = -3 ∧ u = (X, I, a)) := by
  refine cb_enti (own := R_So) (by decide) rfl (Nat.le_of_ble_eq_true rfl) ?_
  intro p e s m args below meth c Q hC hK hM hZ hAs hA2 hret ls hl
  have hx := hC.1
  have hb := hC.2.1
  have h3 := hCI.1.1
  have hnX := hCI.1.2.1
  have hn8 := hCI.1.2.2.1
  have hAN : ∀ q, cA X sz q → N0 ≤ q := fun q hq => (hA2 q hq).elim (hN q) id
  have hT := hCI.2.2.1
  have h160 := hT.2.1
  replace hl : lv_has ls 2 [(0, .ref (X.1 0))] := hl
  refine lv_aload_n hx hb d_So_body_0 rfl (lv_at hl 0 rfl) ?_
  refine rd_get hC in_So hK hM.1 0 (cw_he (by omega) (cE_0)) rfl 3 (by decide) wf_So_31 rfl (v := .int (nI nb)) (congrArg (fun z : Int32 => some (Value.int z)) (h3)) d_So_body_1 ?_
  refine zz_lt hx hb (↑nb : Int) (by omega) (by omega) d_So_body_4 (tgt := 16) (by decide) (fun h1 => ?_) (fun h1 => ?_)
  · first | contradiction | (exfalso; omega)
  · skip
    refine lv_aload_n hx hb d_So_body_7 rfl (lv_at hl 0 rfl) ?_
    refine rd_get hC in_So hK hM.1 0 (cw_he (by omega) (cE_0)) rfl 3 (by decide) wf_So_31 rfl (v := .int (nI nb)) (congrArg (fun z : Int32 => some (Value.int z)) (h3)) d_So_body_8 ?_
    refine lv_bipush (v := 8) hx hb d_So_body_11 (by decide) ?_
    refine nc_lt hx hb nb 8 (by omega) (by omega) d_So_body_13 (tgt := 19) (by decide) (fun h2 => ?_) (fun h2 => ?_)
    · skip
      refine lv_aload_n hx hb d_So_body_19 rfl (lv_at hl 0 rfl) ?_
      refine rd_get hC in_So hK hM.1 0 (cw_he (by omega) (cE_0)) rfl 1 (by decide) wf_So_21 rfl (v := .ref (X.1 3)) (rfl) d_So_body_20 ?_
      have hm8 := c_Rd_read l D cT (XF X X.2.2.2.2) I a s.heap.size adK adV N0 tl tb (fun q9 hq9 => hAN q9 (ca_in hM q9 hq9)) hT
      refine ca_callq (np := 0) (k := 3) hC hK hM hZ hAN hAs (by omega) cE_3 rfl hm8 rfl ⟨wl_So_63, wi_Rd_read, ws_Rd_read, wc_Rd_read, wn_Rd⟩ ⟨by decide, by decide, by decide +kernel⟩ ⟨Nat.le_of_ble_eq_true rfl, Nat.le_of_ble_eq_true rfl⟩ hl.1 rfl (rest := []) rfl (Nat.le_of_ble_eq_true rfl) ⟨by show _ ≤ 111; omega, by show _ ≤ 884; omega⟩ d_So_body_23 (fun o1 F1 J1 H locs hp1 hM => ?_)
      obtain ⟨hcf1, ⟨G1, hG1⟩, hci1, hcs1⟩ := hp1
      replace hG1 : F1 = X.2.2.2.2 ++ G1 := hG1
      replace hM : CO D cT (cA X sz) (XF X F1) J1 a s.heap H locs := hM
      replace hcf1 : ∀ q, ¬ (31 ≤ q ∧ q ≤ 37) → J1 q = I q := hcf1
      have hj11 : J1 11 = nI tl := (hcf1 11 (by omega)).trans hT.1
      have hj3 : J1 3 = nI nb := (hcf1 3 (by omega)).trans h3
      cases hw : prW tl tb with
      | inl f =>
        obtain ⟨rfl, hg36, hg37⟩ := hci1 f hw
        refine lv_astore_nN (lv' := [(1, .null), (0, .ref (X.1 0))]) hx hb d_So_body_26 rfl hl (by decide) rfl (fun ls hl => ?_)
        refine lv_aload_n hx hb d_So_body_27 rfl (lv_at hl 1 rfl) ?_
        refine lv_aload_n hx hb d_So_body_28 rfl (lv_at hl 1 rfl) ?_
        refine rd_get hC in_So hK hM.1 0 (cw_he (by omega) (cE_0)) rfl 1 (by decide) wf_So_21 rfl (v := .ref (X.1 3)) (rfl) d_So_body_29 ?_
        refine rd_getN hC in_Rd hK hM.1 3 (cw_he (by omega) (cE_3)) rfl 6 (by decide) wF_So_67 rfl (v := .int (nI f.1)) (congrArg (fun z : Int32 => some (Value.int z)) (hg36)) d_So_body_32 ?_
        refine co_put hC in_So t_So t_So_ok n_So hK hM 0 (by omega) (cE_0) rfl 4 (by decide) wf_So_35 rfl rfl (ty := .int) (by decide +kernel) (x := nI f.1) rfl rfl (Nat.le_of_ble_eq_true rfl) (by decide) (rfl) d_So_body_35 (fun H locs hM => ?_)
        replace hM : CO D cT (cA X sz) (XF X (F1)) (upd J1 4 (nI f.1)) a s.heap H locs := hM
        refine lv_aload_n hx hb d_So_body_38 rfl (lv_at hl 1 rfl) ?_
        refine rd_get hC in_So hK hM.1 0 (cw_he (by omega) (cE_0)) rfl 0 (by decide) wf_So_12 rfl (v := .ref (X.1 1)) (rfl) d_So_body_39 ?_
        refine lv_iconst (v := 0) hx hb d_So_body_42 (by decide) ?_
        have hm9 := c_Tp_shorten l D cT (XF X (F1)) (upd J1 4 (nI f.1)) a 0
        refine co_calli (np := 1) hC hK hM (k := 1) (by omega) (cE_1) rfl hm9 rfl ⟨wl_So_59, wi_Tp_shorten, ws_Tp_shorten, wc_Tp_shorten, wn_Tp⟩ ⟨by decide, by decide, by decide +kernel⟩ ⟨Nat.le_of_ble_eq_true rfl, Nat.le_of_ble_eq_true rfl⟩ hl.1 rfl (rest := []) rfl (Nat.le_of_ble_eq_true rfl) ⟨by show _ ≤ 111; omega, by show _ ≤ 884; omega⟩ d_So_body_43 (fun rr3 I3 a3 H locs hp3 hM => ?_)
        rw [if_pos ⟨by decide, by show (0 : Int32).toInt ≤ (J1 11).toInt; rw [hj11, nI_toInt (by omega)]; show (0 : Int) ≤ (tl : Int); omega⟩] at hp3
        obtain ⟨hr_p3, hp3⟩ := hp3
        cases hp3
        subst hr_p3
        refine lv_pop hx hb d_So_body_46 rfl ?_
        refine lv_aload_nN hx hb d_So_body_47 rfl (lv_at hl 0 rfl) ?_
        refine lv_ifnonnullN hx hb d_So_body_48 ?_
        refine lv_bipush (v := (-10)) hx hb d_So_body_51 (by decide) ?_
        refine lv_aload_n hx hb d_So_body_53 rfl (lv_at hl 1 rfl) ?_
        refine rd_get hC in_So hK hM.1 0 (cw_he (by omega) (cE_0)) rfl 1 (by decide) wf_So_21 rfl (v := .ref (X.1 3)) (rfl) d_So_body_54 ?_
        refine rd_getN hC in_Rd hK hM.1 3 (cw_he (by omega) (cE_3)) rfl 7 (by decide) wF_So_70 rfl (v := .int (nI f.2)) (congrArg (fun z : Int32 => some (Value.int z)) ((pk_un (by omega)).trans ((pk_un (by omega)).trans (hg37)))) d_So_body_57 ?_
        refine lv_isub hx hb d_So_body_60 ?_
        refine topi_eq (y := iI ((-10) - (↑f.2 : Int))) ((congrArg (fun z : Int32 => z - (nI f.2)) (show ((-10) : Int32) = iI (-10) by decide)).trans (iI_sub (-10) (↑f.2 : Int))) ?_
        exact hret _ _ _ _ _ _ _ _ _ _ d_So_body_61 hM (by omega) (by omega) (⟨rfl, by rw [if_pos (by omega)]; refine ⟨fun f9 hf9 => ?_, fun s9 hs9 => (by rw [hw] at hs9; cases hs9)⟩; rw [hw] at hf9; cases hf9; exact ⟨rfl, CI_rd hCI (fun q9 h91 h92 h93 => (pk_un h93).trans ((pk_un h92).trans (hcf1 q9 h91))) rfl rfl hG1⟩⟩)
      | inr s1 =>
        obtain ⟨r1, rfl, hFT1, hg35, hg36⟩ := hcs1 s1 hw
        obtain ⟨hx1, hx2, hx3⟩ := txt_ok h160 hw
        refine lv_astore_n (lv' := [(1, .ref r1), (0, .ref (X.1 0))]) hx hb d_So_body_26 rfl hl (by decide) rfl (fun ls hl => ?_)
        refine lv_aload_n hx hb d_So_body_27 rfl (lv_at hl 1 rfl) ?_
        refine lv_aload_n hx hb d_So_body_28 rfl (lv_at hl 1 rfl) ?_
        refine rd_get hC in_So hK hM.1 0 (cw_he (by omega) (cE_0)) rfl 1 (by decide) wf_So_21 rfl (v := .ref (X.1 3)) (rfl) d_So_body_29 ?_
        refine rd_getN hC in_Rd hK hM.1 3 (cw_he (by omega) (cE_3)) rfl 6 (by decide) wF_So_67 rfl (v := .int 0) (congrArg (fun z : Int32 => some (Value.int z)) (hg36)) d_So_body_32 ?_
        refine co_put hC in_So t_So t_So_ok n_So hK hM 0 (by omega) (cE_0) rfl 4 (by decide) wf_So_35 rfl rfl (ty := .int) (by decide +kernel) (x := 0) rfl rfl (Nat.le_of_ble_eq_true rfl) (by decide) (rfl) d_So_body_35 (fun H locs hM => ?_)
        replace hM : CO D cT (cA X sz) (XF X (F1)) (upd J1 4 0) a s.heap H locs := hM
        refine lv_aload_n hx hb d_So_body_38 rfl (lv_at hl 1 rfl) ?_
        refine rd_get hC in_So hK hM.1 0 (cw_he (by omega) (cE_0)) rfl 0 (by decide) wf_So_12 rfl (v := .ref (X.1 1)) (rfl) d_So_body_39 ?_
        refine lv_iconst (v := 0) hx hb d_So_body_42 (by decide) ?_
        have hm9 := c_Tp_shorten l D cT (XF X (F1)) (upd J1 4 0) a 0
        refine co_calli (np := 1) hC hK hM (k := 1) (by omega) (cE_1) rfl hm9 rfl ⟨wl_So_59, wi_Tp_shorten, ws_Tp_shorten, wc_Tp_shorten, wn_Tp⟩ ⟨by decide, by decide, by decide +kernel⟩ ⟨Nat.le_of_ble_eq_true rfl, Nat.le_of_ble_eq_true rfl⟩ hl.1 rfl (rest := []) rfl (Nat.le_of_ble_eq_true rfl) ⟨by show _ ≤ 111; omega, by show _ ≤ 884; omega⟩ d_So_body_43 (fun rr4 I4 a4 H locs hp4 hM => ?_)
        rw [if_pos ⟨by decide, by show (0 : Int32).toInt ≤ (J1 11).toInt; rw [hj11, nI_toInt (by omega)]; show (0 : Int) ≤ (tl : Int); omega⟩] at hp4
        obtain ⟨hr_p4, hp4⟩ := hp4
        cases hp4
        subst hr_p4
        refine lv_pop hx hb d_So_body_46 rfl ?_
        refine lv_aload_n hx hb d_So_body_47 rfl (lv_at hl 0 rfl) ?_
        refine lv_ifnonnull (tgt := 62) hx hb d_So_body_48 (by decide) ?_
        refine lv_aload_n hx hb d_So_body_62 rfl (lv_at hl 1 rfl) ?_
        refine rd_get hC in_So hK hM.1 0 (cw_he (by omega) (cE_0)) rfl 2 (by decide) wf_So_27 rfl (v := .ref (X.1 4)) (rfl) d_So_body_63 ?_
        refine lv_aload_n hx hb d_So_body_66 rfl (lv_at hl 1 rfl) ?_
        refine rd_get hC in_So hK hM.1 0 (cw_he (by omega) (cE_0)) rfl 3 (by decide) wf_So_31 rfl (v := .int (nI nb)) (congrArg (fun z : Int32 => some (Value.int z)) ((pk_un (by omega)).trans ((pk_un (by omega)).trans (hj3)))) d_So_body_67 ?_
        have hM2 : NM D (cA X sz) (cw cT (XF X F1) (upd (upd J1 4 0) 11 0) a) s.heap H locs := hM
        refine nm_new (ci := 1) (fs := [.null, .int 0, .null, .int 0, .null, .int 0]) hC in_Bo t_Bo t_Bo_ok wk_So_25 wz_Bo wn_Bo hK hM2 hAs rfl (fun j hj => by rcases (show j = 0 ∨ j = 1 ∨ j = 2 ∨ j = 3 ∨ j = 4 ∨ j = 5 by omega) with rfl | rfl | rfl | rfl | rfl | rfl <;> rfl) (by show 0 + 108 + 1 ≤ 111; omega) (by show 0 + 648 + 6 ≤ 884; omega) d_So_body_70 (fun qb H hM => ?_)
        rw [cw_app] at hM
        replace hM : CO D cT (cA X sz) (XF X (F1 ++ [(qb, .inr (1, [.null, .int 0, .null, .int 0, .null, .int 0]))])) (upd (upd J1 4 0) 11 0) a s.heap H locs := hM
        refine lv_dup hx hb d_So_body_73 rfl ?_
        refine lv_aload_n hx hb d_So_body_74 rfl (lv_at hl 0 rfl) ?_
        refine lv_aload_n hx hb d_So_body_75 rfl (lv_at hl 1 rfl) ?_
        refine rd_get hC in_So hK hM.1 0 (cw_he (by omega) (cE_0)) rfl 1 (by decide) wf_So_21 rfl (v := .ref (X.1 3)) (rfl) d_So_body_76 ?_
        refine rd_getN hC in_Rd hK hM.1 3 (cw_he (by omega) (cE_3)) rfl 5 (by decide) wF_So_73 rfl (v := .int (nI s1.many)) (congrArg (fun z : Int32 => some (Value.int z)) ((pk_un (by omega)).trans ((pk_un (by omega)).trans (hg35)))) d_So_body_79 ?_
        have hM3 : NM D (cA X sz) (cw cT (XF X F1) (upd (upd J1 4 0) 11 0) a ++ [(qb, .inr (1, [.null, .int 0, .null, .int 0, .null, .int 0]))]) s.heap H locs := by rw [cw_app]; exact hM
        refine nm_init (np := 2) (rest := [.ref qb, .int (nI nb), .ref (X.1 4)]) hC hK hM3 hAs (c_Bo_init l D cT qb H.size r1 (nI s1.many)) ⟨wl_So_76, wi_Bo_init, wc_Bo_init, wn_Bo⟩ rfl ⟨by decide, by decide, by decide +kernel⟩ ⟨Nat.le_of_ble_eq_true rfl, Nat.le_of_ble_eq_true rfl⟩ hl.1 rfl rfl (Nat.le_of_ble_eq_true rfl) ⟨by show 0 + 108 + 1 + 2 ≤ 111; omega, by show 0 + 648 + 6 + 230 ≤ 884; omega⟩ d_So_body_82 (fun w1 H locs hp hM => ?_)
        obtain ⟨q1, q2, rfl⟩ := hp
        have hM4 := cb_new (X := XF X F1) (nb := nb) (qb := qb) (q1 := q1) (q2 := q2) (r := r1) (tx := nI s1.many) hnX hM
        have e4 : (XB (XF X F1) nb qb q1 q2 r1).1 4 = X.1 4 := XB_lt (by omega)
        have e0 : (XB (XF X F1) nb qb q1 q2 r1).1 0 = X.1 0 := XB_lt (by omega)
        rw [← e4]
        refine nm_aast hC hK hM4 4 4 (18 + 3 * nb) (cw_he (by show 4 < 18 + 3 * (nb + 1); omega) cE_4) rfl ((cw_at (by show 18 + 3 * nb < 18 + 3 * (nb + 1); omega)).trans (congrArg some (Prod.ext (XB_0 (r := r1)) (cE_B nb)))) rfl nb rfl (by omega) (by decide) d_So_body_85 (fun H locs hM => ?_)
        rw [cw_set4] at hM
        have hM5 : CO D cT (cA X sz) (XR (XB (XF X F1) nb qb q1 q2 r1) (va_up X.2.2.1 nb (some qb))) (IB (upd (upd J1 4 0) 11 0) nb (nI s1.many)) (aB a nb) s.heap H locs := hM
        replace hl : lv_has ls 2 [(0, .ref (X.1 0))] := lv_sub hl [1] rfl
        rw [← e0] at hl
        replace hl : lv_has ls 2 [(0, .ref ((XR (XB (XF X F1) nb qb q1 q2 r1) (va_up X.2.2.1 nb (some qb))).1 0))] := hl
        have h18 : 0 < 18 + 3 * (XR (XB (XF X F1) nb qb q1 q2 r1) (va_up X.2.2.1 nb (some qb))).2.2.2.1 := by omega
        refine lv_aload_n hx hb d_So_body_86 rfl (lv_at hl 0 rfl) ?_
        refine lv_dup hx hb d_So_body_87 rfl ?_
        refine rd_get hC in_So hK hM5.1 0 (cw_he h18 (cE_0)) rfl 3 (by decide) wf_So_31 rfl (v := .int (nI nb)) (congrArg (fun z : Int32 => some (Value.int z)) ((IB_lt (by omega)).trans hj3)) d_So_body_88 ?_
        refine lv_iconst (v := 1) hx hb d_So_body_91 (by decide) ?_
        refine lv_iadd hx hb d_So_body_92 ?_
        refine topi_eq (nI_1 nb) ?_
        refine co_put hC in_So t_So t_So_ok n_So hK hM5 0 h18 (cE_0) rfl 3 (by decide) wf_So_31 rfl rfl (ty := .int) (by decide +kernel) (x := nI (nb + 1)) rfl rfl (Nat.le_of_ble_eq_true rfl) (by decide) (rfl) d_So_body_93 (fun H locs hM => ?_)
        refine lv_aload_n hx hb d_So_body_96 rfl (lv_at hl 0 rfl) ?_
        refine rd_get hC in_So hK hM.1 0 (cw_he h18 (cE_0)) rfl 3 (by decide) wf_So_31 rfl (v := .int (nI (nb + 1))) (congrArg (fun z : Int32 => some (Value.int z)) pk_us) d_So_body_97 ?_
        refine lv_iconst (v := 1) hx hb d_So_body_100 (by decide) ?_
        refine lv_isub hx hb d_So_body_101 ?_
        refine topi_eq (nI_pred nb) ?_
        refine hret _ _ _ _ _ _ _ _ _ _ d_So_body_102 hM (by omega) (by omega) ?_
        refine ⟨e0, ?_⟩
        rw [if_pos (by omega)]
        refine ⟨fun f9 hf9 => (by rw [hw] at hf9; cases hf9), fun s9 hs9 => ?_⟩
        rw [hw] at hs9
        cases hs9
        refine ⟨rfl, ?_⟩
        have hC1 : CI (XF X F1) (upd (upd J1 4 0) 11 0) a nb T 0 tb 0 la szz ce := CI_rd hCI (fun q9 h91 h92 h93 => (pk_un h93).trans ((pk_un h92).trans (hcf1 q9 h91))) rfl rfl hG1
        exact CI_new hC1 (by omega) (txt_FT h160 hw hFT1) hx1 hx2 hx3
    · skip
      refine lv_bipush (v := (-3)) hx hb d_So_body_16 (by decide) ?_
      exact hret _ _ _ _ _ _ _ _ _ _ d_So_body_18 hM (by omega) (by omega) (⟨rfl, by rw [if_neg (by omega)]; exact ⟨rfl, rfl⟩⟩)
