/-! the class: its reader's tokens -/
def cC (tl : Nat) (tb : Nat → Nat) (k : Nat) : Int := if k < tl then (tb k : Int) else -1
section CCS
variable {tl : Nat} {tb : Nat → Nat} {k n p : Nat}
theorem cC_b (h : ∀ j, j < tl → tb j < 256) (k : Nat) : -1 ≤ cC tl tb k ∧ cC tl tb k ≤ 255 := by
  unfold cC
  split
  · have := h k (by assumption)
    omega
  · omega
theorem cC_end : cC tl tb k < 0 ↔ tl ≤ k := by
  unfold cC
  split <;> omega
theorem cC_c {c : Nat} (hc : c < 999) : cC tl tb k = (c : Int) ↔ ch tl tb k = c := by
  unfold cC ch
  split <;> omega
theorem cC_lt : (97 ≤ cC tl tb k ∧ cC tl tb k ≤ 122) ↔ isLt (ch tl tb k) = true := by
  unfold cC ch isLt
  rw [decide_eq_true_iff]
  split <;> omega
theorem cC_fg : (48 ≤ cC tl tb k ∧ cC tl tb k ≤ 57) ↔ isFg (ch tl tb k) = true := by
  unfold cC ch isFg
  rw [decide_eq_true_iff]
  split <;> omega
theorem cC_in (h : 0 ≤ cC tl tb k) : cC tl tb k = (ch tl tb k : Int) := by
  unfold cC ch at *
  split <;> simp_all
theorem cC_tl (h : 0 ≤ cC tl tb k) : k < tl := by
  unfold cC at h
  split at h <;> omega
theorem bC_v {A : Nat → Int32} (ha : ∀ j, j < tl → A j &&& 255 = nI (tb j)) : (if k < tl then A k &&& 255 else -1) = iI (cC tl tb k) := by
  unfold cC
  by_cases h : k < tl
  · rw [if_pos h, if_pos h, ha k h]
    rfl
  · rw [if_neg h, if_neg h]
    rfl
theorem skC_y (h : cC tl tb k = 32) (hk : k < 400) : skP tl tb k = skP tl tb (k + 1) := eR_y (f := fun k => decide (ch tl tb k = 32)) (decide_eq_true ((cC_c (c := 32) (by decide)).mp h)) hk
theorem skC_n (h : ¬ cC tl tb k = 32) : skP tl tb k = k := eR_n (f := fun k => decide (ch tl tb k = 32)) (decide_eq_false (fun z => h ((cC_c (c := 32) (by decide)).mpr z)))
theorem skC_e (h : tl ≤ k) : skP tl tb k = k := eR_n (f := fun k => decide (ch tl tb k = 32)) (sp_end h)
theorem ltC_y (h : 97 ≤ cC tl tb k ∧ cC tl tb k ≤ 122) (hk : k < 400) : ltE tl tb k = ltE tl tb (k + 1) := eR_y (f := fun k => isLt (ch tl tb k)) (cC_lt.mp h) hk
theorem ltC_n (h : ¬ (97 ≤ cC tl tb k ∧ cC tl tb k ≤ 122)) : ltE tl tb k = k := eR_n (f := fun k => isLt (ch tl tb k)) (Bool.eq_false_iff.mpr (fun z => h (cC_lt.mpr z)))
theorem ltC_e (h : tl ≤ k) : ltE tl tb k = k := eR_n (f := fun k => isLt (ch tl tb k)) (lt_end h)
theorem fgC_y (h : 48 ≤ cC tl tb k ∧ cC tl tb k ≤ 57) (hk : k < 400) : fgE tl tb k = fgE tl tb (k + 1) := eR_y (f := fun k => isFg (ch tl tb k)) (cC_fg.mp h) hk
theorem fgC_n (h : ¬ (48 ≤ cC tl tb k ∧ cC tl tb k ≤ 57)) : fgE tl tb k = k := eR_n (f := fun k => isFg (ch tl tb k)) (Bool.eq_false_iff.mpr (fun z => h (cC_fg.mpr z)))
theorem fgC_e (h : tl ≤ k) : fgE tl tb k = k := eR_n (f := fun k => isFg (ch tl tb k)) (fg_end h)
theorem fgB_C : (if cC tl tb k = 45 then k + 1 else k) = fgB tl tb k := by
  unfold fgB
  by_cases z : ch tl tb k = 45
  · rw [if_pos z, if_pos (show cC tl tb k = 45 from (cC_c (c := 45) (by decide)).mpr z)]
  · rw [if_neg z, if_neg (show ¬ cC tl tb k = 45 from fun y => z ((cC_c (c := 45) (by decide)).mp y))]
theorem cRC : cR tl tb k = 45 ↔ cC tl tb k = 45 := (cR_c (tl := tl) (tb := tb) (k := k) (c := 45) (by decide)).trans (cC_c (tl := tl) (tb := tb) (k := k) (c := 45) (by decide)).symm
theorem tk_nmC (hk : skP tl tb p = k) (h1 : ¬ tl ≤ k) (h2 : isLt (ch tl tb k) = true) (he : ltE tl tb k = k + n) : tok tl tb p = (if nmK (fun i => ch tl tb (k + i)) n 10 = 10 then 3 else 1, k, k + n, (nmK (fun i => ch tl tb (k + i)) n 10 : Int)) := by
  have e : ltK tl tb k = nmK (fun i => ch tl tb (k + i)) n 10 := by
    unfold ltK
    rw [he, show k + n - k = n by omega]
  unfold tok tokA
  rw [hk, if_neg h1, if_pos h2, he, e]
  have hb := nmK_le (fun i => ch tl tb (k + i)) n 10
  by_cases z : nmK (fun i => ch tl tb (k + i)) n 10 = 10
  · rw [if_neg (by omega), if_pos z]
  · rw [if_pos (by omega), if_neg z]
theorem tk_fgC (hk : skP tl tb p = k) (h1 : ¬ tl ≤ k) (h2 : ¬ isLt (ch tl tb k) = true) (h3 : isFg (ch tl tb k) = true ∨ ch tl tb k = 45) (he : fgE tl tb (fgB tl tb k) = fgB tl tb k + n) : tok tl tb p = (if 1 ≤ n ∧ n ≤ 2 then 2 else 3, k, fgB tl tb k + n, if cC tl tb k = 45 then -nv (fun i => ch tl tb (fgB tl tb k + i)) n else nv (fun i => ch tl tb (fgB tl tb k + i)) n) := by
  have e := tk_fg hk h1 h2 h3 he
  simp only [cRC] at e
  exact e
end CCS
theorem nmK_10 {c : Nat → Nat} {n k : Nat} (hk : k ≤ 10) : nmK c n k ≤ 10 := by
  rcases nmK_le c n k with h | h
  · exact h.1
  · omega
theorem cK_b (k j : Nat) : cK k j ≤ 122 := by
  unfold cK
  (repeat' split) <;> omega
theorem nm_upd {c : Nat → Nat} {n kk i : Nat} {sm : Bool} (hi : i ≤ lK kk) (ht : sm = true → n = lK kk ∧ ∀ j, j < i → c j = cK kk j) (hf : sm = false → ¬ nmS kk c n) (hx : sm = false ∨ ¬ i < lK kk) : (if sm = true then kk else nmK c n kk) = nmK c n (kk + 1) := by
  show _ = (if nmS kk c n then kk else nmK c n kk)
  cases hs : sm with
  | true =>
    rw [if_pos rfl]
    have h := ht hs
    have e : i = lK kk := by
      rcases hx with hx | hx
      · rw [hs] at hx; cases hx
      · omega
    rw [if_pos ⟨h.1, fun j hj => h.2 j (by omega)⟩]
  | false =>
    rw [if_neg (by decide), if_neg (hf hs)]
/-- the class's token -/
def TKC (I : Nat → Int32) (t : TT) : Prop := I 33 = nI t.2.1 ∧ (t.1 = 3 → I 36 = 1 ∧ I 37 = nI t.2.1) ∧ (¬ t.1 = 3 → I 36 = 0 ∧ I 31 = nI t.2.2.1 ∧ I 32 = nI t.1 ∧ (t.1 = 1 ∨ t.1 = 2 → I 34 = iI t.2.2.2))
def czPc (D : va_G) (cT : Nat → ClassId) (X : CX) (I : Nat → Int32) (a : Nat → Nat → Int32) (av : List Value) (adK adV : Nat → Nat) (N0 : Nat) : Array Value → State → Prop := va_Pc av (fun U => va_P D classes (cw cT X I a) U.heap ∧ KE D cT U ∧ va_D (CA X) (cw cT X I a) ∧ SE adK adV N0 U)
theorem czPc_blind {D : va_G} {cT : Nat → ClassId} {X : CX} {I : Nat → Int32} {a : Nat → Nat → Int32} {av : List Value} {adK adV : Nat → Nat} {N0 : Nat} : FrameBlind (czPc D cT X I a av adK adV N0) := fun _ _ _ _ h => ⟨h.1, h.2.1, h.2.2.1.blind, h.2.2.2.1, h.2.2.2.2.blind⟩
def CZi (l : Launch) (D : va_G) (cT : Nat → ClassId) (X : CX) (adK adV : Nat → Nat) (N0 : Nat) (y : MethodName) (b : ByteArray) (n : Nat) (r : Option FieldType) (fr lo : Nat) (av : List Value) (I : Nat → Int32) (a : Nat → Nat → Int32) (post : Int32 → CS → Prop) : Prop := Met l y (wm y b n r) (rmOf fr lo) (czPc D cT X I a av adK adV N0) (va_Qi post (coB D cT X) (CA X)) 0 0 (CA X)
def CZv (l : Launch) (D : va_G) (cT : Nat → ClassId) (X : CX) (adK adV : Nat → Nat) (N0 : Nat) (y : MethodName) (b : ByteArray) (n : Nat) (r : Option FieldType) (fr lo : Nat) (av : List Value) (I : Nat → Int32) (a : Nat → Nat → Int32) (post : CS → Prop) : Prop := Met l y (wm y b n r) (rmOf fr lo) (czPc D cT X I a av adK adV N0) (va_Qv post (coB D cT X) (CA X)) 0 0 (CA X)
section CZ
variable {p : Program} {l : Launch} {e : Env} {RM : Room} {s : State} {m : MethodId} {args : Array Value} {below : List Frame} {meth : Method} {c : Code} {H H0 : Heap} {locs : List Loc} {cells slots : Nat} {Q : State → Prop} {cc : ByteArray} {pc nL : Nat} {ls : Array Slot} {rest : List Value} {own : String}
variable {D : va_G} {cT : Nat → ClassId} {A : Nat → Prop} {X : CX} {I : Nat → Int32} {a : Nat → Nat → Int32} {adK adV : Nat → Nat} {N0 : Nat}
theorem cz_enti {y : MethodName} {b : ByteArray} {n : Nat} {fr lo : Nat} {av : List Value} {post : Int32 → CS → Prop} (hy : plainName y.cls = true) (ho : y.cls = own) (hlen : (lg_sl av).length ≤ n)
    (body : ∀ (p : Program) (e : Env) (s : State) (m : MethodId) (args : Array Value) (below : List Frame) (meth : Method) (c : Code) (Q : State → Prop), CallFix p m c b n s args GW own → KE D cT s → CO D cT (CA X) X I a s.heap s.heap [] → SE adK adV N0 s → (∀ (pc : Nat) (ls : Array Slot) (v : Int32) (I : Nat → Int32) (a : Nat → Nat → Int32) (H : Heap) (locs : List Loc), decode b pc = .ok (.ireturn, 1) → CO D cT (CA X) X I a s.heap H locs → post v (I, a) → W p l e (rmOf fr lo) s m args below meth c H locs 0 0 Q (F0 m pc ls [.int v])) → ∀ ls : Array Slot, lv_has ls n (lv_args 0 av) →
      W p l e (rmOf fr lo) s m args below meth c s.heap [] 0 0 Q (F0 m 0 ls [])) : CZi l D cT X adK adV N0 y b n (some .int) fr lo av I a post := by
  refine Met.ofW (cc := b) (maxL := n) (ret := some .int) hy rfl ?_
  intro p e s m args below meth c s₁ B hml hv
  obtain ⟨hv, hP, hK, hD, hZ⟩ := hv
  subst hv
  have hts := atoms_spec (ws := wm y b n (some .int)) B.pre
  rw [lg_entry_eq]
  exact body p e s m _ below meth c _ ⟨B.exec, B.bytes, hml, by rw [← ho]; exact findClass_of_methodNamed B.named, fun w h => hts w (List.mem_cons_of_mem _ h)⟩ hK ⟨hP, hD, va_S.rf⟩ hZ (fun pc ls v I a H locs hdg hM hp => W.iret B.exec B.bytes B.returns (fun t ht _ => ⟨⟨v, (I, a), rfl, hp, by rw [ht]; exact hM.1, hM.2.1⟩, hM.2.2.F ht⟩) hM.2.2.2.2 hdg) _ (lv_entry _ hlen)
theorem cz_entv {y : MethodName} {b : ByteArray} {n : Nat} {fr lo : Nat} {av : List Value} {post : CS → Prop} (hy : plainName y.cls = true) (ho : y.cls = own) (hlen : (lg_sl av).length ≤ n)
    (body : ∀ (p : Program) (e : Env) (s : State) (m : MethodId) (args : Array Value) (below : List Frame) (meth : Method) (c : Code) (Q : State → Prop), CallFix p m c b n s args GW own → KE D cT s → CO D cT (CA X) X I a s.heap s.heap [] → SE adK adV N0 s → (∀ (pc : Nat) (ls : Array Slot) (I : Nat → Int32) (a : Nat → Nat → Int32) (H : Heap) (locs : List Loc), decode b pc = .ok (.return_, 1) → CO D cT (CA X) X I a s.heap H locs → post (I, a) → W p l e (rmOf fr lo) s m args below meth c H locs 0 0 Q (F0 m pc ls [])) → ∀ ls : Array Slot, lv_has ls n (lv_args 0 av) →
      W p l e (rmOf fr lo) s m args below meth c s.heap [] 0 0 Q (F0 m 0 ls [])) : CZv l D cT X adK adV N0 y b n none fr lo av I a post := by
  refine Met.ofW (cc := b) (maxL := n) (ret := none) hy rfl ?_
  intro p e s m args below meth c s₁ B hml hv
  obtain ⟨hv, hP, hK, hD, hZ⟩ := hv
  subst hv
  have hts := atoms_spec (ws := wm y b n none) B.pre
  rw [lg_entry_eq]
  exact body p e s m _ below meth c _ ⟨B.exec, B.bytes, hml, by rw [← ho]; exact findClass_of_methodNamed B.named, fun w h => hts w (List.mem_cons_of_mem _ h)⟩ hK ⟨hP, hD, va_S.rf⟩ hZ (fun pc ls I a H locs hdg hM hp => W.vret B.exec B.bytes B.returns (fun t ht _ => ⟨⟨(I, a), rfl, hp, by rw [ht]; exact hM.1, hM.2.1⟩, hM.2.2.F ht⟩) hM.2.2.2.2 hdg) _ (lv_entry _ hlen)
theorem cz_calli {y : MethodName} {b : ByteArray} {n np index fr lo ci k : Nat} {r : Option FieldType} {av st fs : List Value} {vc : vw_C} {post : Int32 → CS → Prop} (hC : CallFix p m c cc nL s args GW own) (hK : KE D cT s) (hM : CO D cT A X I a s.heap H locs) (hZ : SE adK adV N0 s) (hA : ∀ q, A q → N0 ≤ q) (hk : k < 18 + 3 * X.2.2.2.1) (he : cE cT X I a k = .inr (ci, fs)) (hc : classes[ci]? = some vc) (hm : CZi l D cT X adK adV N0 y b n r fr lo (.ref (X.1 k) :: av) I a post) (hy : y.cls = vc.1) (hw : Cond.methodLink own index y ∈ GW ∧ Cond.instanceMethod y ∈ GW ∧ Cond.selects y.cls y y ∈ GW ∧ Cond.code y b n r ∈ GW ∧ Cond.initialized y.cls ∈ GW) (hd : y.cls ≠ "java/lang/invoke/MethodHandle" ∧ y.cls ≠ "java/lang/invoke/VarHandle" ∧ (parseMethodDescriptor y.desc).map (fun d => d.parameters.length) = some np) (hR : fr + 1 ≤ RM.frames ∧ 8 + (n + 11) + lo ≤ RM.locals) (hsz : ls.size = nL) (hn : av.length = np) (hst : st = av.reverse ++ .ref (X.1 k) :: rest) (hcat : (rest.map fun v => v.category).sum ≤ 8) (hf : cells ≤ RM.cells ∧ slots ≤ RM.slots) (hdg : decode cc pc = .ok (.invokevirtual index, 3))
    (kk : ∀ (r : Int32) (I' : Nat → Int32) (a' : Nat → Nat → Int32) (H1 : Heap) (locs1 : List Loc), post r (I', a') → CO D cT A X I' a' s.heap H1 locs1 → W p l e RM s m args below meth c H1 locs1 cells slots Q (F0 m (pc + 3) ls (.int r :: rest))) : W p l e RM s m args below meth c H locs cells slots Q (F0 m pc ls st) :=
  va_calli (va_runV (As := av) (rest := rest) hC hm (cw_V hC.2.2.2.2 hw hd hR) ⟨czPc_blind, by rw [hy]; exact va_recv hK.1 hM.1 hc (cw_he hk he), fun U hU hW => ⟨rfl, by rw [hU]; exact hM.1, hK.moved hW, co_self hM, hZ.to hU hW hM.2.2 hA⟩⟩ rfl hn hsz hst (lv_room hcat) hdg hf) hM.2.2 (fun q _ h => ca_in hM q h) (fun q h => ca_in hM q h) (fun r u t H1 locs1 ht hvm hp hB hz hk2 hS => kk r u.1 u.2 H1 locs1 hp ⟨by rw [← ht]; exact hB.1, hB.2.weaken (fun _ q _ h => ca_in hM q.1 h), hS⟩)
theorem cz_callv {y : MethodName} {b : ByteArray} {n np index fr lo ci k : Nat} {r : Option FieldType} {av st fs : List Value} {vc : vw_C} {post : CS → Prop} (hC : CallFix p m c cc nL s args GW own) (hK : KE D cT s) (hM : CO D cT A X I a s.heap H locs) (hZ : SE adK adV N0 s) (hA : ∀ q, A q → N0 ≤ q) (hk : k < 18 + 3 * X.2.2.2.1) (he : cE cT X I a k = .inr (ci, fs)) (hc : classes[ci]? = some vc) (hm : CZv l D cT X adK adV N0 y b n r fr lo (.ref (X.1 k) :: av) I a post) (hy : y.cls = vc.1) (hw : Cond.methodLink own index y ∈ GW ∧ Cond.instanceMethod y ∈ GW ∧ Cond.selects y.cls y y ∈ GW ∧ Cond.code y b n r ∈ GW ∧ Cond.initialized y.cls ∈ GW) (hd : y.cls ≠ "java/lang/invoke/MethodHandle" ∧ y.cls ≠ "java/lang/invoke/VarHandle" ∧ (parseMethodDescriptor y.desc).map (fun d => d.parameters.length) = some np) (hR : fr + 1 ≤ RM.frames ∧ 8 + (n + 11) + lo ≤ RM.locals) (hsz : ls.size = nL) (hn : av.length = np) (hst : st = av.reverse ++ .ref (X.1 k) :: rest) (hcat : (rest.map fun v => v.category).sum ≤ 8) (hf : cells ≤ RM.cells ∧ slots ≤ RM.slots) (hdg : decode cc pc = .ok (.invokevirtual index, 3))
    (kk : ∀ (I' : Nat → Int32) (a' : Nat → Nat → Int32) (H1 : Heap) (locs1 : List Loc), post (I', a') → CO D cT A X I' a' s.heap H1 locs1 → W p l e RM s m args below meth c H1 locs1 cells slots Q (F0 m (pc + 3) ls rest)) : W p l e RM s m args below meth c H locs cells slots Q (F0 m pc ls st) :=
  va_callv (va_runV (As := av) (rest := rest) hC hm (cw_V hC.2.2.2.2 hw hd hR) ⟨czPc_blind, by rw [hy]; exact va_recv hK.1 hM.1 hc (cw_he hk he), fun U hU hW => ⟨rfl, by rw [hU]; exact hM.1, hK.moved hW, co_self hM, hZ.to hU hW hM.2.2 hA⟩⟩ rfl hn hsz hst (lv_room hcat) hdg hf) hM.2.2 (fun q _ h => ca_in hM q h) (fun q h => ca_in hM q h) (fun u t H1 locs1 ht hvm hp hB hz hk2 hS => kk u.1 u.2 H1 locs1 hp ⟨by rw [← ht]; exact hB.1, hB.2.weaken (fun _ q _ h => ca_in hM q.1 h), hS⟩)
end CZ
set_option maxHeartbeats 400000 in
set_option maxRecDepth 100000 in
theorem c_Rd_fail (l : Launch) (D : va_G) (cT : Nat → ClassId) (X : CX) (I : Nat → Int32) (a : Nat → Nat → Int32) (k : Int32) (w : Int32)   : CMv l D cT X y_Rd_fail b_Rd_fail 3 none 0 0 [.ref (X.1 3), .int k, .int w] I a (fun u => u = (upd (upd I 36 k) 37 w, a)) := by
  refine co_entv (own := R_Rd) (by decide) rfl (Nat.le_of_ble_eq_true rfl) ?_
  intro p e s m args below meth c Q hC hK hM hret ls hl
  have hx := hC.1
  have hb := hC.2.1
  replace hl : lv_has ls 3 [(0, .ref (X.1 3)), (1, .int k), (2, .int w)] := hl
  refine lv_aload_n hx hb d_Rd_fail_0 rfl (lv_at hl 0 rfl) ?_
  refine lv_iload_n hx hb d_Rd_fail_1 rfl (lv_at hl 1 rfl) ?_
  refine co_put hC in_Rd t_Rd t_Rd_ok n_Rd hK hM 3 (by omega) (cE_3) rfl 6 (by decide) wf_Rd_27 rfl rfl (ty := .int) (by decide +kernel) (x := k) rfl rfl (Nat.le_of_ble_eq_true rfl) (by decide) (rfl) d_Rd_fail_2 (fun H locs hM => ?_)
  replace hM : CO D cT (CA X) X (upd I 36 k) a s.heap H locs := hM
  refine lv_aload_n hx hb d_Rd_fail_5 rfl (lv_at hl 0 rfl) ?_
  refine lv_iload_n hx hb d_Rd_fail_6 rfl (lv_at hl 2 rfl) ?_
  refine co_put hC in_Rd t_Rd t_Rd_ok n_Rd hK hM 3 (by omega) (cE_3) rfl 7 (by decide) wf_Rd_30 rfl rfl (ty := .int) (by decide +kernel) (x := w) rfl rfl (Nat.le_of_ble_eq_true rfl) (by decide) (rfl) d_Rd_fail_7 (fun H locs hM => ?_)
  replace hM : CO D cT (CA X) X (upd (upd I 36 k) 37 w) a s.heap H locs := hM
  exact hret _ _ _ _ _ _ d_Rd_fail_10 hM (rfl)
set_option maxHeartbeats 2000000 in
set_option maxRecDepth 100000 in
theorem c_Rd_readFigures (l : Launch) (D : va_G) (cT : Nat → ClassId) (X : CX) (I : Nat → Int32) (a : Nat → Nat → Int32)  (tl p0 k : Nat) (tb : Nat → Nat) (hT : CTp I a tl tb) (h31 : I 31 = nI k) (h33 : I 33 = nI k) (h36 : I 36 = 0) (hsk : skP tl tb p0 = k) (hkt : k < tl) (hnl : ¬ isLt (ch tl tb k) = true) (hfg : isFg (ch tl tb k) = true ∨ ch tl tb k = 45) : CMv l D cT X y_Rd_readFigures b_Rd_readFigures 4 none 1 22 [.ref (X.1 3)] I a (fun u => u.2 = a ∧ (∀ q, ¬ (31 ≤ q ∧ q ≤ 37) ∨ q = 35 → u.1 q = I q) ∧ TKC u.1 (tok tl tb p0)) := by
  refine co_entv (own := R_Rd) (by decide) rfl (Nat.le_of_ble_eq_true rfl) ?_
  intro p e s m args below meth c Q hC hK hM hret ls hl
  have hx := hC.1
  have hb := hC.2.1
  replace hl : lv_has ls 4 [(0, .ref (X.1 3))] := hl
  have htb : ∀ j, j < tl → tb j < 256 := fun j hj => (hT.2.2 j hj).2
  have h160 := hT.2.1
  have hcb_k := cC_b htb k
  refine lv_aload_n hx hb d_Rd_readFigures_0 rfl (lv_at hl 0 rfl) ?_
  refine rd_get hC in_Rd hK hM.1 3 (cw_he (by omega) (cE_3)) rfl 0 (by decide) wf_Rd_33 rfl (v := .ref (X.1 1)) (rfl) d_Rd_readFigures_1 ?_
  refine lv_aload_n hx hb d_Rd_readFigures_4 rfl (lv_at hl 0 rfl) ?_
  refine rd_get hC in_Rd hK hM.1 3 (cw_he (by omega) (cE_3)) rfl 1 (by decide) wf_Rd_9 rfl (v := .int (nI k)) (congrArg (fun z : Int32 => some (Value.int z)) (h31)) d_Rd_readFigures_5 ?_
  refine rd_call (np := 1) hC hK hM.1 (cw_he (by omega) (cE_1)) rfl (c_Tp_byteAt l D cT X I a k tl (hT.1) hT.2.1 (by omega)) rfl ⟨wl_Rd_92, wi_Tp_byteAt, ws_Tp_byteAt, wc_Tp_byteAt, wn_Tp⟩ ⟨by decide, by decide, by decide +kernel⟩ ⟨Nat.le_of_ble_eq_true rfl, Nat.le_of_ble_eq_true rfl⟩ hl.1 rfl (rest := []) rfl (Nat.le_of_ble_eq_true rfl) ⟨Nat.zero_le _, Nat.zero_le _⟩ d_Rd_readFigures_8 (fun rr hrr => ?_)
  replace hrr : rr = iI (cC tl tb k) := hrr.trans (bC_v (fun j hj => (hT.2.2 j hj).1))
  subst hrr
  refine lv_bipush (v := 45) hx hb d_Rd_readFigures_11 (by decide) ?_
  have hJ1 : ∀ (H : Heap) (locs : List Loc) (ls : Array Slot), CO D cT (CA X) X I a s.heap H locs → lv_has ls 4 [(0, .ref (X.1 3))] → W p l e (rmOf 1 22) s m args below meth c H locs 0 0 Q (F0 m 21 ls [.int (bI ((cC tl tb k) = 45))]) := ?_
  · skip
    refine zc_ne hx hb (cC tl tb k) 45 (by omega) (by omega) (by omega) (by omega) d_Rd_readFigures_13 (tgt := 20) (by decide) (fun h2 => ?_) (fun h2 => ?_)
    · skip
      refine lv_iconst (v := 0) hx hb d_Rd_readFigures_20 (by decide) ?_
      refine topi_eq (show (0 : Int32) = bI ((cC tl tb k) = 45) by first | rfl | exact (bI_t (by assumption)).symm | exact (bI_f (by assumption)).symm | exact (bI_f (fun z => z (by assumption))).symm | (rw [if_neg h2]; done) | (rw [if_neg h2]; rfl) | (simp only [if_neg h2]; done) | (simp only [if_neg h2]; rfl)) ?_
      exact hJ1 _ _ _ (by first | exact hM | (simp only [if_neg h2]; exact hM)) (by first | exact lv_sub hl [0] rfl | (simp only [if_neg h2]; exact lv_sub hl [0] rfl))
    · skip
      refine lv_iconst (v := 1) hx hb d_Rd_readFigures_16 (by decide) ?_
      refine lv_goto (tgt := 21) hx hb d_Rd_readFigures_17 (by decide) ?_
      refine topi_eq (show (1 : Int32) = bI ((cC tl tb k) = 45) by first | rfl | exact (bI_t (by assumption)).symm | exact (bI_f (by assumption)).symm | exact (bI_f (fun z => z (by assumption))).symm | (rw [if_pos h2]; done) | (rw [if_pos h2]; rfl) | (simp only [if_pos h2]; done) | (simp only [if_pos h2]; rfl)) ?_
      exact hJ1 _ _ _ (by first | exact hM | (simp only [if_pos h2]; exact hM)) (by first | exact lv_sub hl [0] rfl | (simp only [if_pos h2]; exact lv_sub hl [0] rfl))
  intro H locs ls hM hl
  refine lv_istore_n (lv' := [(1, .int (bI ((cC tl tb k) = 45))), (0, .ref (X.1 3))]) hx hb d_Rd_readFigures_21 rfl hl (by decide) rfl (fun ls hl => ?_)
  refine lv_iload_n hx hb d_Rd_readFigures_22 rfl (lv_at hl 0 rfl) ?_
  have hJ3 : ∀ (H : Heap) (locs : List Loc) (ls : Array Slot), CO D cT (CA X) X I a s.heap H locs → lv_has ls 4 [(0, .ref (X.1 3)), (1, .int (bI ((cC tl tb k) = 45)))] → W p l e (rmOf 1 22) s m args below meth c H locs 0 0 Q (F0 m 39 ls [.int (nI (if (cC tl tb k) = 45 then k + 1 else k))]) := ?_
  · skip
    refine bz_eq (tgt := 35) hx hb d_Rd_readFigures_23 (by decide) (fun h4 => ?_) (fun h4 => ?_)
    · skip
      refine lv_aload_n hx hb d_Rd_readFigures_35 rfl (lv_at hl 1 rfl) ?_
      refine rd_get hC in_Rd hK hM.1 3 (cw_he (by omega) (cE_3)) rfl 1 (by decide) wf_Rd_9 rfl (v := .int (nI k)) (congrArg (fun z : Int32 => some (Value.int z)) (h31)) d_Rd_readFigures_36 ?_
      refine topi_eq (show (nI k : Int32) = nI (if (cC tl tb k) = 45 then k + 1 else k) by first | rfl | exact (bI_t (by assumption)).symm | exact (bI_f (by assumption)).symm | exact (bI_f (fun z => z (by assumption))).symm | (rw [if_neg h4]; done) | (rw [if_neg h4]; rfl) | (simp only [if_neg h4]; done) | (simp only [if_neg h4]; rfl)) ?_
      exact hJ3 _ _ _ (by first | exact hM | (simp only [if_neg h4]; exact hM)) (by first | exact lv_sub hl [1, 0] rfl | (simp only [if_neg h4]; exact lv_sub hl [1, 0] rfl))
    · skip
      refine lv_aload_n hx hb d_Rd_readFigures_26 rfl (lv_at hl 1 rfl) ?_
      refine rd_get hC in_Rd hK hM.1 3 (cw_he (by omega) (cE_3)) rfl 1 (by decide) wf_Rd_9 rfl (v := .int (nI k)) (congrArg (fun z : Int32 => some (Value.int z)) (h31)) d_Rd_readFigures_27 ?_
      refine lv_iconst (v := 1) hx hb d_Rd_readFigures_30 (by decide) ?_
      refine lv_iadd hx hb d_Rd_readFigures_31 ?_
      refine topi_eq (nI_add k 1) ?_
      refine lv_goto (tgt := 39) hx hb d_Rd_readFigures_32 (by decide) ?_
      refine topi_eq (show (nI (k + 1) : Int32) = nI (if (cC tl tb k) = 45 then k + 1 else k) by first | rfl | exact (bI_t (by assumption)).symm | exact (bI_f (by assumption)).symm | exact (bI_f (fun z => z (by assumption))).symm | (rw [if_pos h4]; done) | (rw [if_pos h4]; rfl) | (simp only [if_pos h4]; done) | (simp only [if_pos h4]; rfl)) ?_
      exact hJ3 _ _ _ (by first | exact hM | (simp only [if_pos h4]; exact hM)) (by first | exact lv_sub hl [1, 0] rfl | (simp only [if_pos h4]; exact lv_sub hl [1, 0] rfl))
  intro H locs ls hM hl
  refine topi_eq (show nI (if (cC tl tb k) = 45 then k + 1 else k) = nI (fgB tl tb k) from congrArg nI fgB_C) ?_
  have hfb : k ≤ fgB tl tb k ∧ fgB tl tb k ≤ k + 1 := by unfold fgB; split <;> omega
  refine lv_istore_n (lv' := [(2, .int (nI (fgB tl tb k))), (0, .ref (X.1 3)), (1, .int (bI ((cC tl tb k) = 45)))]) hx hb d_Rd_readFigures_39 rfl hl (by decide) rfl (fun ls hl => ?_)
  refine lv_iconst (v := 0) hx hb d_Rd_readFigures_40 (by decide) ?_
  refine lv_istore_n (lv' := [(3, .int 0), (2, .int (nI (fgB tl tb k))), (0, .ref (X.1 3)), (1, .int (bI ((cC tl tb k) = 45)))]) hx hb d_Rd_readFigures_41 rfl hl (by decide) rfl (fun ls hl => ?_)
  refine lv_aload_n hx hb d_Rd_readFigures_42 rfl (lv_at hl 2 rfl) ?_
  refine lv_iload_n hx hb d_Rd_readFigures_43 rfl (lv_at hl 1 rfl) ?_
  refine co_put hC in_Rd t_Rd t_Rd_ok n_Rd hK hM 3 (by omega) (cE_3) rfl 1 (by decide) wf_Rd_9 rfl rfl (ty := .int) (by decide +kernel) (x := nI (fgB tl tb k)) rfl rfl (Nat.le_of_ble_eq_true rfl) (by decide) (rfl) d_Rd_readFigures_44 (fun H locs hM => ?_)
  replace hM : CO D cT (CA X) X (upd I 31 (nI (fgB tl tb k))) a s.heap H locs := hM
  have hL47 : ∀ (nn : Nat) (n : Nat) (H : Heap) (locs : List Loc) (ls : Array Slot), 400 - n < nn → (fgB tl tb k + n ≤ tl + 1) → (fgE tl tb (fgB tl tb k) = fgE tl tb (fgB tl tb k + n)) → (∀ i, i < n → 48 ≤ ch tl tb (fgB tl tb k + i) ∧ ch tl tb (fgB tl tb k + i) ≤ 57) → CO D cT (CA X) X (upd I 31 (nI (fgB tl tb k + n))) a s.heap H locs → lv_has ls 4 [(0, .ref (X.1 3)), (1, .int (bI (cC tl tb k = 45))), (2, .int (nI (fgB tl tb k))), (3, .int (iI (nv (fun i => ch tl tb (fgB tl tb k + i)) n)))] → W p l e (rmOf 1 22) s m args below meth c H locs 0 0 Q (F0 m 47 ls []) := by
    intro nn
    induction nn with
    | zero =>
      intro n H locs ls hmeas47 hn hfe hfd hM hl
      exact absurd hmeas47 (Nat.not_lt_zero _)
    | succ nn ih47 =>
      intro n H locs ls hmeas47 hn hfe hfd hM hl
      have hcb_1 := cC_b htb (fgB tl tb k + n)
      have hnv := nv_b (c := (fun i => ch tl tb (fgB tl tb k + i))) (n := n) (fun i hi => by have := hfd i hi; omega)
      refine lv_aload_n hx hb d_Rd_readFigures_47 rfl (lv_at hl 0 rfl) ?_
      refine rd_get hC in_Rd hK hM.1 3 (cw_he (by omega) (cE_3)) rfl 1 (by decide) wf_Rd_9 rfl (v := .int (nI (fgB tl tb k + n))) (congrArg (fun z : Int32 => some (Value.int z)) (pk_us)) d_Rd_readFigures_48 ?_
      refine lv_sipush (v := 160) hx hb d_Rd_readFigures_51 (by decide) ?_
      refine nc_ge hx hb (fgB tl tb k + n) 160 (by omega) (by omega) d_Rd_readFigures_54 (tgt := 121) (by decide) (fun h5 => ?_) (fun h5 => ?_)
      · skip
        have he : fgE tl tb (fgB tl tb k) = fgB tl tb k + n := by rw [hfe]; first | exact fgC_n (by assumption) | exact fgC_e (by omega)
        refine lv_aload_n hx hb d_Rd_readFigures_121 rfl (lv_at hl 0 rfl) ?_
        refine lv_iconst (v := 2) hx hb d_Rd_readFigures_122 (by decide) ?_
        refine co_put hC in_Rd t_Rd t_Rd_ok n_Rd hK hM 3 (by omega) (cE_3) rfl 2 (by decide) wf_Rd_15 rfl rfl (ty := .int) (by decide +kernel) (x := 2) rfl rfl (Nat.le_of_ble_eq_true rfl) (by decide) (rfl) d_Rd_readFigures_123 (fun H locs hM => ?_)
        replace hM : CO D cT (CA X) X (upd (upd I 31 (nI (fgB tl tb k + n))) 32 2) a s.heap H locs := hM
        refine lv_aload_n hx hb d_Rd_readFigures_126 rfl (lv_at hl 0 rfl) ?_
        refine lv_iload_n hx hb d_Rd_readFigures_127 rfl (lv_at hl 1 rfl) ?_
        have hJ6 : ∀ (H : Heap) (locs : List Loc) (ls : Array Slot), CO D cT (CA X) X (upd (upd I 31 (nI (fgB tl tb k + n))) 32 2) a s.heap H locs → lv_has ls 4 [(0, .ref (X.1 3)), (1, .int (bI (cC tl tb k = 45))), (2, .int (nI (fgB tl tb k))), (3, .int (iI (nv (fun i => ch tl tb (fgB tl tb k + i)) n)))] → W p l e (rmOf 1 22) s m args below meth c H locs 0 0 Q (F0 m 137 ls [.int (iI (if cC tl tb k = 45 then -(nv (fun i => ch tl tb (fgB tl tb k + i)) n) else nv (fun i => ch tl tb (fgB tl tb k + i)) n)), .ref (X.1 3)]) := ?_
        · skip
          refine bz_eq (tgt := 136) hx hb d_Rd_readFigures_128 (by decide) (fun h7 => ?_) (fun h7 => ?_)
          · skip
            refine lv_iload_n hx hb d_Rd_readFigures_136 rfl (lv_at hl 3 rfl) ?_
            refine topi_eq (show (iI (nv (fun i => ch tl tb (fgB tl tb k + i)) n) : Int32) = iI (if cC tl tb k = 45 then -(nv (fun i => ch tl tb (fgB tl tb k + i)) n) else nv (fun i => ch tl tb (fgB tl tb k + i)) n) by first | rfl | exact (bI_t (by assumption)).symm | exact (bI_f (by assumption)).symm | exact (bI_f (fun z => z (by assumption))).symm | (rw [if_neg h7]; done) | (rw [if_neg h7]; rfl) | (simp only [if_neg h7]; done) | (simp only [if_neg h7]; rfl)) ?_
            exact hJ6 _ _ _ (by first | exact hM | (simp only [if_neg h7]; exact hM)) (by first | exact lv_sub hl [0, 1, 2, 3] rfl | (simp only [if_neg h7]; exact lv_sub hl [0, 1, 2, 3] rfl))
          · skip
            refine lv_iload_n hx hb d_Rd_readFigures_131 rfl (lv_at hl 3 rfl) ?_
            refine lv_ineg hx hb d_Rd_readFigures_132 ?_
            refine topi_eq (iI_neg (nv (fun i => ch tl tb (fgB tl tb k + i)) n)) ?_
            refine lv_goto (tgt := 137) hx hb d_Rd_readFigures_133 (by decide) ?_
            refine topi_eq (show (iI (-(nv (fun i => ch tl tb (fgB tl tb k + i)) n)) : Int32) = iI (if cC tl tb k = 45 then -(nv (fun i => ch tl tb (fgB tl tb k + i)) n) else nv (fun i => ch tl tb (fgB tl tb k + i)) n) by first | rfl | exact (bI_t (by assumption)).symm | exact (bI_f (by assumption)).symm | exact (bI_f (fun z => z (by assumption))).symm | (rw [if_pos h7]; done) | (rw [if_pos h7]; rfl) | (simp only [if_pos h7]; done) | (simp only [if_pos h7]; rfl)) ?_
            exact hJ6 _ _ _ (by first | exact hM | (simp only [if_pos h7]; exact hM)) (by first | exact lv_sub hl [0, 1, 2, 3] rfl | (simp only [if_pos h7]; exact lv_sub hl [0, 1, 2, 3] rfl))
        intro H locs ls hM hl
        refine co_put hC in_Rd t_Rd t_Rd_ok n_Rd hK hM 3 (by omega) (cE_3) rfl 4 (by decide) wf_Rd_21 rfl rfl (ty := .int) (by decide +kernel) (x := iI (if cC tl tb k = 45 then -(nv (fun i => ch tl tb (fgB tl tb k + i)) n) else nv (fun i => ch tl tb (fgB tl tb k + i)) n)) rfl rfl (Nat.le_of_ble_eq_true rfl) (by decide) (rfl) d_Rd_readFigures_137 (fun H locs hM => ?_)
        replace hM : CO D cT (CA X) X (upd (upd (upd I 31 (nI (fgB tl tb k + n))) 32 2) 34 (iI (if cC tl tb k = 45 then -(nv (fun i => ch tl tb (fgB tl tb k + i)) n) else nv (fun i => ch tl tb (fgB tl tb k + i)) n))) a s.heap H locs := hM
        refine lv_aload_n hx hb d_Rd_readFigures_140 rfl (lv_at hl 0 rfl) ?_
        refine rd_get hC in_Rd hK hM.1 3 (cw_he (by omega) (cE_3)) rfl 1 (by decide) wf_Rd_9 rfl (v := .int (nI (fgB tl tb k + n))) (congrArg (fun z : Int32 => some (Value.int z)) ((pk_un (by omega)).trans ((pk_un (by omega)).trans (pk_us)))) d_Rd_readFigures_141 ?_
        refine lv_iload_n hx hb d_Rd_readFigures_144 rfl (lv_at hl 2 rfl) ?_
        refine nc_eq hx hb (fgB tl tb k + n) (fgB tl tb k) (by omega) (by omega) d_Rd_readFigures_145 (tgt := 158) (by decide) (fun h8 => ?_) (fun h8 => ?_)
        · skip
          refine lv_aload_n hx hb d_Rd_readFigures_158 rfl (lv_at hl 0 rfl) ?_
          refine lv_iconst (v := 1) hx hb d_Rd_readFigures_159 (by decide) ?_
          refine lv_aload_n hx hb d_Rd_readFigures_160 rfl (lv_at hl 0 rfl) ?_
          refine rd_get hC in_Rd hK hM.1 3 (cw_he (by omega) (cE_3)) rfl 3 (by decide) wf_Rd_18 rfl (v := .int (nI k)) (congrArg (fun z : Int32 => some (Value.int z)) ((pk_un (by omega)).trans ((pk_un (by omega)).trans ((pk_un (by omega)).trans (h33))))) d_Rd_readFigures_161 ?_
          refine co_callv (np := 2) hC hK hM (k := 3) (by omega) (cE_3) rfl (c_Rd_fail l D cT X (upd (upd (upd I 31 (nI (fgB tl tb k + n))) 32 2) 34 (iI (if cC tl tb k = 45 then -(nv (fun i => ch tl tb (fgB tl tb k + i)) n) else nv (fun i => ch tl tb (fgB tl tb k + i)) n))) a 1 (nI k)) rfl ⟨wl_Rd_44, wi_Rd_fail, ws_Rd_fail, wc_Rd_fail, wn_Rd⟩ ⟨by decide, by decide, by decide +kernel⟩ ⟨Nat.le_of_ble_eq_true rfl, Nat.le_of_ble_eq_true rfl⟩ hl.1 rfl (rest := []) rfl (Nat.le_of_ble_eq_true rfl) ⟨Nat.zero_le _, Nat.zero_le _⟩ d_Rd_readFigures_164 (fun I9 a9 H locs hp9 hM => ?_)
          cases hp9
          refine hret _ _ _ _ _ _ d_Rd_readFigures_167 hM ?_
          refine ⟨rfl, fun q hq => by show upd _ _ _ q = _; (repeat rw [pk_un (by omega)]), ?_⟩
          have ht1 := tk_fgC (n := n) hsk (by omega) hnl hfg he
          rw [if_neg (by omega)] at ht1
          rw [ht1]
          exact ⟨h33, fun _ => ⟨rfl, rfl⟩, fun z => absurd rfl z⟩
        · skip
          refine lv_aload_n hx hb d_Rd_readFigures_148 rfl (lv_at hl 0 rfl) ?_
          refine rd_get hC in_Rd hK hM.1 3 (cw_he (by omega) (cE_3)) rfl 1 (by decide) wf_Rd_9 rfl (v := .int (nI (fgB tl tb k + n))) (congrArg (fun z : Int32 => some (Value.int z)) ((pk_un (by omega)).trans ((pk_un (by omega)).trans (pk_us)))) d_Rd_readFigures_149 ?_
          refine lv_iload_n hx hb d_Rd_readFigures_152 rfl (lv_at hl 2 rfl) ?_
          refine lv_isub hx hb d_Rd_readFigures_153 ?_
          refine topi_eq (iI_sub (↑(fgB tl tb k + n) : Int) (↑(fgB tl tb k) : Int)) ?_
          refine lv_iconst (v := 2) hx hb d_Rd_readFigures_154 (by decide) ?_
          refine zc_le hx hb ((↑(fgB tl tb k + n) : Int) - (↑(fgB tl tb k) : Int)) 2 (by omega) (by omega) (by omega) (by omega) d_Rd_readFigures_155 (tgt := 167) (by decide) (fun h10 => ?_) (fun h10 => ?_)
          · skip
            refine hret _ _ _ _ _ _ d_Rd_readFigures_167 hM ?_
            refine ⟨rfl, fun q hq => by show upd _ _ _ q = _; (repeat rw [pk_un (by omega)]), ?_⟩
            have ht1 := tk_fgC (n := n) hsk (by omega) hnl hfg he
            rw [if_pos (by omega)] at ht1
            rw [ht1]
            exact ⟨h33, fun z => absurd (show (2 : Nat) = 3 from z) (by decide), fun _ => ⟨h36, rfl, rfl, fun _ => rfl⟩⟩
          · skip
            refine lv_aload_n hx hb d_Rd_readFigures_158 rfl (lv_at hl 0 rfl) ?_
            refine lv_iconst (v := 1) hx hb d_Rd_readFigures_159 (by decide) ?_
            refine lv_aload_n hx hb d_Rd_readFigures_160 rfl (lv_at hl 0 rfl) ?_
            refine rd_get hC in_Rd hK hM.1 3 (cw_he (by omega) (cE_3)) rfl 3 (by decide) wf_Rd_18 rfl (v := .int (nI k)) (congrArg (fun z : Int32 => some (Value.int z)) ((pk_un (by omega)).trans ((pk_un (by omega)).trans ((pk_un (by omega)).trans (h33))))) d_Rd_readFigures_161 ?_
            refine co_callv (np := 2) hC hK hM (k := 3) (by omega) (cE_3) rfl (c_Rd_fail l D cT X (upd (upd (upd I 31 (nI (fgB tl tb k + n))) 32 2) 34 (iI (if cC tl tb k = 45 then -(nv (fun i => ch tl tb (fgB tl tb k + i)) n) else nv (fun i => ch tl tb (fgB tl tb k + i)) n))) a 1 (nI k)) rfl ⟨wl_Rd_44, wi_Rd_fail, ws_Rd_fail, wc_Rd_fail, wn_Rd⟩ ⟨by decide, by decide, by decide +kernel⟩ ⟨Nat.le_of_ble_eq_true rfl, Nat.le_of_ble_eq_true rfl⟩ hl.1 rfl (rest := []) rfl (Nat.le_of_ble_eq_true rfl) ⟨Nat.zero_le _, Nat.zero_le _⟩ d_Rd_readFigures_164 (fun I11 a11 H locs hp11 hM => ?_)
            cases hp11
            refine hret _ _ _ _ _ _ d_Rd_readFigures_167 hM ?_
            refine ⟨rfl, fun q hq => by show upd _ _ _ q = _; (repeat rw [pk_un (by omega)]), ?_⟩
            have ht1 := tk_fgC (n := n) hsk (by omega) hnl hfg he
            rw [if_neg (by omega)] at ht1
            rw [ht1]
            exact ⟨h33, fun _ => ⟨rfl, rfl⟩, fun z => absurd rfl z⟩
      · skip
        refine lv_aload_n hx hb d_Rd_readFigures_57 rfl (lv_at hl 0 rfl) ?_
        refine rd_get hC in_Rd hK hM.1 3 (cw_he (by omega) (cE_3)) rfl 0 (by decide) wf_Rd_33 rfl (v := .ref (X.1 1)) (rfl) d_Rd_readFigures_58 ?_
        refine lv_aload_n hx hb d_Rd_readFigures_61 rfl (lv_at hl 0 rfl) ?_
        refine rd_get hC in_Rd hK hM.1 3 (cw_he (by omega) (cE_3)) rfl 1 (by decide) wf_Rd_9 rfl (v := .int (nI (fgB tl tb k + n))) (congrArg (fun z : Int32 => some (Value.int z)) (pk_us)) d_Rd_readFigures_62 ?_
        refine rd_call (np := 1) hC hK hM.1 (cw_he (by omega) (cE_1)) rfl (c_Tp_byteAt l D cT X (upd I 31 (nI (fgB tl tb k + n))) a (fgB tl tb k + n) tl ((pk_un (by omega)).trans (hT.1)) hT.2.1 (by omega)) rfl ⟨wl_Rd_92, wi_Tp_byteAt, ws_Tp_byteAt, wc_Tp_byteAt, wn_Tp⟩ ⟨by decide, by decide, by decide +kernel⟩ ⟨Nat.le_of_ble_eq_true rfl, Nat.le_of_ble_eq_true rfl⟩ hl.1 rfl (rest := []) rfl (Nat.le_of_ble_eq_true rfl) ⟨Nat.zero_le _, Nat.zero_le _⟩ d_Rd_readFigures_65 (fun rr hrr => ?_)
        replace hrr : rr = iI (cC tl tb (fgB tl tb k + n)) := hrr.trans (bC_v (fun j hj => (hT.2.2 j hj).1))
        subst hrr
        refine st_calli (np := 1) hC (c_Rd_isFigure l (iI (cC tl tb (fgB tl tb k + n))) (cC tl tb (fgB tl tb k + n)) (iI_toInt (z := cC tl tb (fgB tl tb k + n)) (by omega) (by omega))) ⟨wl_Rd_101, wt_Rd_isFigure, wc_Rd_isFigure, wn_Rd⟩ ⟨by decide, by decide, by decide +kernel⟩ ⟨Nat.le_of_ble_eq_true rfl, Nat.le_of_ble_eq_true rfl⟩ hl.1 rfl (rest := []) rfl (Nat.le_of_ble_eq_true rfl) ⟨Nat.zero_le _, Nat.zero_le _⟩ d_Rd_readFigures_68 (fun rr hrr => ?_)
        subst hrr
        refine bz_eq (tgt := 121) hx hb d_Rd_readFigures_71 (by decide) (fun h12 => ?_) (fun h12 => ?_)
        · skip
          have he : fgE tl tb (fgB tl tb k) = fgB tl tb k + n := by rw [hfe]; first | exact fgC_n (by assumption) | exact fgC_e (by omega)
          refine lv_aload_n hx hb d_Rd_readFigures_121 rfl (lv_at hl 0 rfl) ?_
          refine lv_iconst (v := 2) hx hb d_Rd_readFigures_122 (by decide) ?_
          refine co_put hC in_Rd t_Rd t_Rd_ok n_Rd hK hM 3 (by omega) (cE_3) rfl 2 (by decide) wf_Rd_15 rfl rfl (ty := .int) (by decide +kernel) (x := 2) rfl rfl (Nat.le_of_ble_eq_true rfl) (by decide) (rfl) d_Rd_readFigures_123 (fun H locs hM => ?_)
          replace hM : CO D cT (CA X) X (upd (upd I 31 (nI (fgB tl tb k + n))) 32 2) a s.heap H locs := hM
          refine lv_aload_n hx hb d_Rd_readFigures_126 rfl (lv_at hl 0 rfl) ?_
          refine lv_iload_n hx hb d_Rd_readFigures_127 rfl (lv_at hl 1 rfl) ?_
          have hJ13 : ∀ (H : Heap) (locs : List Loc) (ls : Array Slot), CO D cT (CA X) X (upd (upd I 31 (nI (fgB tl tb k + n))) 32 2) a s.heap H locs → lv_has ls 4 [(0, .ref (X.1 3)), (1, .int (bI (cC tl tb k = 45))), (2, .int (nI (fgB tl tb k))), (3, .int (iI (nv (fun i => ch tl tb (fgB tl tb k + i)) n)))] → W p l e (rmOf 1 22) s m args below meth c H locs 0 0 Q (F0 m 137 ls [.int (iI (if cC tl tb k = 45 then -(nv (fun i => ch tl tb (fgB tl tb k + i)) n) else nv (fun i => ch tl tb (fgB tl tb k + i)) n)), .ref (X.1 3)]) := ?_
          · skip
            refine bz_eq (tgt := 136) hx hb d_Rd_readFigures_128 (by decide) (fun h14 => ?_) (fun h14 => ?_)
            · skip
              refine lv_iload_n hx hb d_Rd_readFigures_136 rfl (lv_at hl 3 rfl) ?_
              refine topi_eq (show (iI (nv (fun i => ch tl tb (fgB tl tb k + i)) n) : Int32) = iI (if cC tl tb k = 45 then -(nv (fun i => ch tl tb (fgB tl tb k + i)) n) else nv (fun i => ch tl tb (fgB tl tb k + i)) n) by first | rfl | exact (bI_t (by assumption)).symm | exact (bI_f (by assumption)).symm | exact (bI_f (fun z => z (by assumption))).symm | (rw [if_neg h14]; done) | (rw [if_neg h14]; rfl) | (simp only [if_neg h14]; done) | (simp only [if_neg h14]; rfl)) ?_
              exact hJ13 _ _ _ (by first | exact hM | (simp only [if_neg h14]; exact hM)) (by first | exact lv_sub hl [0, 1, 2, 3] rfl | (simp only [if_neg h14]; exact lv_sub hl [0, 1, 2, 3] rfl))
            · skip
              refine lv_iload_n hx hb d_Rd_readFigures_131 rfl (lv_at hl 3 rfl) ?_
              refine lv_ineg hx hb d_Rd_readFigures_132 ?_
              refine topi_eq (iI_neg (nv (fun i => ch tl tb (fgB tl tb k + i)) n)) ?_
              refine lv_goto (tgt := 137) hx hb d_Rd_readFigures_133 (by decide) ?_
              refine topi_eq (show (iI (-(nv (fun i => ch tl tb (fgB tl tb k + i)) n)) : Int32) = iI (if cC tl tb k = 45 then -(nv (fun i => ch tl tb (fgB tl tb k + i)) n) else nv (fun i => ch tl tb (fgB tl tb k + i)) n) by first | rfl | exact (bI_t (by assumption)).symm | exact (bI_f (by assumption)).symm | exact (bI_f (fun z => z (by assumption))).symm | (rw [if_pos h14]; done) | (rw [if_pos h14]; rfl) | (simp only [if_pos h14]; done) | (simp only [if_pos h14]; rfl)) ?_
              exact hJ13 _ _ _ (by first | exact hM | (simp only [if_pos h14]; exact hM)) (by first | exact lv_sub hl [0, 1, 2, 3] rfl | (simp only [if_pos h14]; exact lv_sub hl [0, 1, 2, 3] rfl))
          intro H locs ls hM hl
          refine co_put hC in_Rd t_Rd t_Rd_ok n_Rd hK hM 3 (by omega) (cE_3) rfl 4 (by decide) wf_Rd_21 rfl rfl (ty := .int) (by decide +kernel) (x := iI (if cC tl tb k = 45 then -(nv (fun i => ch tl tb (fgB tl tb k + i)) n) else nv (fun i => ch tl tb (fgB tl tb k + i)) n)) rfl rfl (Nat.le_of_ble_eq_true rfl) (by decide) (rfl) d_Rd_readFigures_137 (fun H locs hM => ?_)
          replace hM : CO D cT (CA X) X (upd (upd (upd I 31 (nI (fgB tl tb k + n))) 32 2) 34 (iI (if cC tl tb k = 45 then -(nv (fun i => ch tl tb (fgB tl tb k + i)) n) else nv (fun i => ch tl tb (fgB tl tb k + i)) n))) a s.heap H locs := hM
          refine lv_aload_n hx hb d_Rd_readFigures_140 rfl (lv_at hl 0 rfl) ?_
          refine rd_get hC in_Rd hK hM.1 3 (cw_he (by omega) (cE_3)) rfl 1 (by decide) wf_Rd_9 rfl (v := .int (nI (fgB tl tb k + n))) (congrArg (fun z : Int32 => some (Value.int z)) ((pk_un (by omega)).trans ((pk_un (by omega)).trans (pk_us)))) d_Rd_readFigures_141 ?_
          refine lv_iload_n hx hb d_Rd_readFigures_144 rfl (lv_at hl 2 rfl) ?_
          refine nc_eq hx hb (fgB tl tb k + n) (fgB tl tb k) (by omega) (by omega) d_Rd_readFigures_145 (tgt := 158) (by decide) (fun h15 => ?_) (fun h15 => ?_)
          · skip
            refine lv_aload_n hx hb d_Rd_readFigures_158 rfl (lv_at hl 0 rfl) ?_
            refine lv_iconst (v := 1) hx hb d_Rd_readFigures_159 (by decide) ?_
            refine lv_aload_n hx hb d_Rd_readFigures_160 rfl (lv_at hl 0 rfl) ?_
            refine rd_get hC in_Rd hK hM.1 3 (cw_he (by omega) (cE_3)) rfl 3 (by decide) wf_Rd_18 rfl (v := .int (nI k)) (congrArg (fun z : Int32 => some (Value.int z)) ((pk_un (by omega)).trans ((pk_un (by omega)).trans ((pk_un (by omega)).trans (h33))))) d_Rd_readFigures_161 ?_
            refine co_callv (np := 2) hC hK hM (k := 3) (by omega) (cE_3) rfl (c_Rd_fail l D cT X (upd (upd (upd I 31 (nI (fgB tl tb k + n))) 32 2) 34 (iI (if cC tl tb k = 45 then -(nv (fun i => ch tl tb (fgB tl tb k + i)) n) else nv (fun i => ch tl tb (fgB tl tb k + i)) n))) a 1 (nI k)) rfl ⟨wl_Rd_44, wi_Rd_fail, ws_Rd_fail, wc_Rd_fail, wn_Rd⟩ ⟨by decide, by decide, by decide +kernel⟩ ⟨Nat.le_of_ble_eq_true rfl, Nat.le_of_ble_eq_true rfl⟩ hl.1 rfl (rest := []) rfl (Nat.le_of_ble_eq_true rfl) ⟨Nat.zero_le _, Nat.zero_le _⟩ d_Rd_readFigures_164 (fun I16 a16 H locs hp16 hM => ?_)
            cases hp16
            refine hret _ _ _ _ _ _ d_Rd_readFigures_167 hM ?_
            refine ⟨rfl, fun q hq => by show upd _ _ _ q = _; (repeat rw [pk_un (by omega)]), ?_⟩
            have ht1 := tk_fgC (n := n) hsk (by omega) hnl hfg he
            rw [if_neg (by omega)] at ht1
            rw [ht1]
            exact ⟨h33, fun _ => ⟨rfl, rfl⟩, fun z => absurd rfl z⟩
          · skip
            refine lv_aload_n hx hb d_Rd_readFigures_148 rfl (lv_at hl 0 rfl) ?_
            refine rd_get hC in_Rd hK hM.1 3 (cw_he (by omega) (cE_3)) rfl 1 (by decide) wf_Rd_9 rfl (v := .int (nI (fgB tl tb k + n))) (congrArg (fun z : Int32 => some (Value.int z)) ((pk_un (by omega)).trans ((pk_un (by omega)).trans (pk_us)))) d_Rd_readFigures_149 ?_
            refine lv_iload_n hx hb d_Rd_readFigures_152 rfl (lv_at hl 2 rfl) ?_
            refine lv_isub hx hb d_Rd_readFigures_153 ?_
            refine topi_eq (iI_sub (↑(fgB tl tb k + n) : Int) (↑(fgB tl tb k) : Int)) ?_
            refine lv_iconst (v := 2) hx hb d_Rd_readFigures_154 (by decide) ?_
            refine zc_le hx hb ((↑(fgB tl tb k + n) : Int) - (↑(fgB tl tb k) : Int)) 2 (by omega) (by omega) (by omega) (by omega) d_Rd_readFigures_155 (tgt := 167) (by decide) (fun h17 => ?_) (fun h17 => ?_)
            · skip
              refine hret _ _ _ _ _ _ d_Rd_readFigures_167 hM ?_
              refine ⟨rfl, fun q hq => by show upd _ _ _ q = _; (repeat rw [pk_un (by omega)]), ?_⟩
              have ht1 := tk_fgC (n := n) hsk (by omega) hnl hfg he
              rw [if_pos (by omega)] at ht1
              rw [ht1]
              exact ⟨h33, fun z => absurd (show (2 : Nat) = 3 from z) (by decide), fun _ => ⟨h36, rfl, rfl, fun _ => rfl⟩⟩
            · skip
              refine lv_aload_n hx hb d_Rd_readFigures_158 rfl (lv_at hl 0 rfl) ?_
              refine lv_iconst (v := 1) hx hb d_Rd_readFigures_159 (by decide) ?_
              refine lv_aload_n hx hb d_Rd_readFigures_160 rfl (lv_at hl 0 rfl) ?_
              refine rd_get hC in_Rd hK hM.1 3 (cw_he (by omega) (cE_3)) rfl 3 (by decide) wf_Rd_18 rfl (v := .int (nI k)) (congrArg (fun z : Int32 => some (Value.int z)) ((pk_un (by omega)).trans ((pk_un (by omega)).trans ((pk_un (by omega)).trans (h33))))) d_Rd_readFigures_161 ?_
              refine co_callv (np := 2) hC hK hM (k := 3) (by omega) (cE_3) rfl (c_Rd_fail l D cT X (upd (upd (upd I 31 (nI (fgB tl tb k + n))) 32 2) 34 (iI (if cC tl tb k = 45 then -(nv (fun i => ch tl tb (fgB tl tb k + i)) n) else nv (fun i => ch tl tb (fgB tl tb k + i)) n))) a 1 (nI k)) rfl ⟨wl_Rd_44, wi_Rd_fail, ws_Rd_fail, wc_Rd_fail, wn_Rd⟩ ⟨by decide, by decide, by decide +kernel⟩ ⟨Nat.le_of_ble_eq_true rfl, Nat.le_of_ble_eq_true rfl⟩ hl.1 rfl (rest := []) rfl (Nat.le_of_ble_eq_true rfl) ⟨Nat.zero_le _, Nat.zero_le _⟩ d_Rd_readFigures_164 (fun I18 a18 H locs hp18 hM => ?_)
              cases hp18
              refine hret _ _ _ _ _ _ d_Rd_readFigures_167 hM ?_
              refine ⟨rfl, fun q hq => by show upd _ _ _ q = _; (repeat rw [pk_un (by omega)]), ?_⟩
              have ht1 := tk_fgC (n := n) hsk (by omega) hnl hfg he
              rw [if_neg (by omega)] at ht1
              rw [ht1]
              exact ⟨h33, fun _ => ⟨rfl, rfl⟩, fun z => absurd rfl z⟩
        · skip
          refine lv_aload_n hx hb d_Rd_readFigures_74 rfl (lv_at hl 0 rfl) ?_
          refine rd_get hC in_Rd hK hM.1 3 (cw_he (by omega) (cE_3)) rfl 1 (by decide) wf_Rd_9 rfl (v := .int (nI (fgB tl tb k + n))) (congrArg (fun z : Int32 => some (Value.int z)) (pk_us)) d_Rd_readFigures_75 ?_
          refine lv_iload_n hx hb d_Rd_readFigures_78 rfl (lv_at hl 2 rfl) ?_
          refine lv_isub hx hb d_Rd_readFigures_79 ?_
          refine topi_eq (iI_sub (↑(fgB tl tb k + n) : Int) (↑(fgB tl tb k) : Int)) ?_
          refine lv_iconst (v := 2) hx hb d_Rd_readFigures_80 (by decide) ?_
          refine zc_ge hx hb ((↑(fgB tl tb k + n) : Int) - (↑(fgB tl tb k) : Int)) 2 (by omega) (by omega) (by omega) (by omega) d_Rd_readFigures_81 (tgt := 106) (by decide) (fun h19 => ?_) (fun h19 => ?_)
          · skip
            refine lv_iload_n hx hb d_Rd_readFigures_106 rfl (lv_at hl 3 rfl) ?_
            refine topi_eq (congrArg iI (nv_k (c := (fun i => ch tl tb (fgB tl tb k + i))) (n := n) (by omega))) ?_
            refine lv_istore_n (lv' := [(3, .int (iI (nv (fun i => ch tl tb (fgB tl tb k + i)) (n + 1)))), (0, .ref (X.1 3)), (1, .int (bI (cC tl tb k = 45))), (2, .int (nI (fgB tl tb k)))]) hx hb d_Rd_readFigures_107 rfl hl (by decide) rfl (fun ls hl => ?_)
            refine lv_aload_n hx hb d_Rd_readFigures_108 rfl (lv_at hl 1 rfl) ?_
            refine lv_dup hx hb d_Rd_readFigures_109 rfl ?_
            refine rd_get hC in_Rd hK hM.1 3 (cw_he (by omega) (cE_3)) rfl 1 (by decide) wf_Rd_9 rfl (v := .int (nI (fgB tl tb k + n))) (congrArg (fun z : Int32 => some (Value.int z)) (pk_us)) d_Rd_readFigures_110 ?_
            refine lv_iconst (v := 1) hx hb d_Rd_readFigures_113 (by decide) ?_
            refine lv_iadd hx hb d_Rd_readFigures_114 ?_
            refine topi_eq (nI_add (fgB tl tb k + n) 1) ?_
            refine co_put hC in_Rd t_Rd t_Rd_ok n_Rd hK hM 3 (by omega) (cE_3) rfl 1 (by decide) wf_Rd_9 rfl rfl (ty := .int) (by decide +kernel) (x := nI ((fgB tl tb k + n) + 1)) rfl rfl (Nat.le_of_ble_eq_true rfl) (by decide) (rfl) d_Rd_readFigures_115 (fun H locs hM => ?_)
            replace hM : CO D cT (CA X) X (upd (upd I 31 (nI (fgB tl tb k + n))) 31 (nI ((fgB tl tb k + n) + 1))) a s.heap H locs := hM
            rw [upd_upd] at hM
            refine lv_goto (tgt := 47) hx hb d_Rd_readFigures_118 (by decide) ?_
            have hk1 := cC_tl (tl := tl) (tb := tb) (k := fgB tl tb k + n) (by omega)
            exact ih47 (n + 1) _ _ _ (by omega) (by omega) (by rw [hfe, fgC_y h12 (by omega)]; rfl) (fun i hi => by by_cases e : i = n; (rw [e]; have := cC_in (tl := tl) (tb := tb) (k := fgB tl tb k + n) (by omega); omega); exact hfd i (by omega)) (hM) (lv_sub hl [1, 2, 3, 0] rfl)
          · skip
            refine lv_iload_n hx hb d_Rd_readFigures_84 rfl (lv_at hl 3 rfl) ?_
            refine lv_bipush (v := 10) hx hb d_Rd_readFigures_85 (by decide) ?_
            refine lv_imul hx hb d_Rd_readFigures_87 ?_
            refine topi_eq (iI_mul (nv (fun i => ch tl tb (fgB tl tb k + i)) n) 10) ?_
            refine lv_aload_n hx hb d_Rd_readFigures_88 rfl (lv_at hl 0 rfl) ?_
            refine rd_get hC in_Rd hK hM.1 3 (cw_he (by omega) (cE_3)) rfl 0 (by decide) wf_Rd_33 rfl (v := .ref (X.1 1)) (rfl) d_Rd_readFigures_89 ?_
            refine lv_aload_n hx hb d_Rd_readFigures_92 rfl (lv_at hl 0 rfl) ?_
            refine rd_get hC in_Rd hK hM.1 3 (cw_he (by omega) (cE_3)) rfl 1 (by decide) wf_Rd_9 rfl (v := .int (nI (fgB tl tb k + n))) (congrArg (fun z : Int32 => some (Value.int z)) (pk_us)) d_Rd_readFigures_93 ?_
            refine rd_call (np := 1) hC hK hM.1 (cw_he (by omega) (cE_1)) rfl (c_Tp_byteAt l D cT X (upd I 31 (nI (fgB tl tb k + n))) a (fgB tl tb k + n) tl ((pk_un (by omega)).trans (hT.1)) hT.2.1 (by omega)) rfl ⟨wl_Rd_92, wi_Tp_byteAt, ws_Tp_byteAt, wc_Tp_byteAt, wn_Tp⟩ ⟨by decide, by decide, by decide +kernel⟩ ⟨Nat.le_of_ble_eq_true rfl, Nat.le_of_ble_eq_true rfl⟩ hl.1 rfl (rest := [.int (iI ((nv (fun i => ch tl tb (fgB tl tb k + i)) n) * 10))]) rfl (Nat.le_of_ble_eq_true rfl) ⟨Nat.zero_le _, Nat.zero_le _⟩ d_Rd_readFigures_96 (fun rr hrr => ?_)
            replace hrr : rr = iI (cC tl tb (fgB tl tb k + n)) := hrr.trans (bC_v (fun j hj => (hT.2.2 j hj).1))
            subst hrr
            refine lv_bipush (v := 48) hx hb d_Rd_readFigures_99 (by decide) ?_
            refine lv_isub hx hb d_Rd_readFigures_101 ?_
            refine topi_eq (iI_sub (cC tl tb (fgB tl tb k + n)) 48) ?_
            refine lv_iadd hx hb d_Rd_readFigures_102 ?_
            refine topi_eq (iI_add ((nv (fun i => ch tl tb (fgB tl tb k + i)) n) * 10) ((cC tl tb (fgB tl tb k + n)) - 48)) ?_
            refine lv_goto (tgt := 107) hx hb d_Rd_readFigures_103 (by decide) ?_
            refine topi_eq (show iI (((nv (fun i => ch tl tb (fgB tl tb k + i)) n) * 10) + ((cC tl tb (fgB tl tb k + n)) - 48)) = iI (nv (fun i => ch tl tb (fgB tl tb k + i)) (n + 1)) by rw [← nv_s (c := (fun i => ch tl tb (fgB tl tb k + i))) (n := n) (by omega)]; congr 1; have := cC_in (tl := tl) (tb := tb) (k := fgB tl tb k + n) (by omega); omega) ?_
            refine lv_istore_n (lv' := [(3, .int (iI (nv (fun i => ch tl tb (fgB tl tb k + i)) (n + 1)))), (0, .ref (X.1 3)), (1, .int (bI (cC tl tb k = 45))), (2, .int (nI (fgB tl tb k)))]) hx hb d_Rd_readFigures_107 rfl hl (by decide) rfl (fun ls hl => ?_)
            refine lv_aload_n hx hb d_Rd_readFigures_108 rfl (lv_at hl 1 rfl) ?_
            refine lv_dup hx hb d_Rd_readFigures_109 rfl ?_
            refine rd_get hC in_Rd hK hM.1 3 (cw_he (by omega) (cE_3)) rfl 1 (by decide) wf_Rd_9 rfl (v := .int (nI (fgB tl tb k + n))) (congrArg (fun z : Int32 => some (Value.int z)) (pk_us)) d_Rd_readFigures_110 ?_
            refine lv_iconst (v := 1) hx hb d_Rd_readFigures_113 (by decide) ?_
            refine lv_iadd hx hb d_Rd_readFigures_114 ?_
            refine topi_eq (nI_add (fgB tl tb k + n) 1) ?_
            refine co_put hC in_Rd t_Rd t_Rd_ok n_Rd hK hM 3 (by omega) (cE_3) rfl 1 (by decide) wf_Rd_9 rfl rfl (ty := .int) (by decide +kernel) (x := nI ((fgB tl tb k + n) + 1)) rfl rfl (Nat.le_of_ble_eq_true rfl) (by decide) (rfl) d_Rd_readFigures_115 (fun H locs hM => ?_)
            replace hM : CO D cT (CA X) X (upd (upd I 31 (nI (fgB tl tb k + n))) 31 (nI ((fgB tl tb k + n) + 1))) a s.heap H locs := hM
            rw [upd_upd] at hM
            refine lv_goto (tgt := 47) hx hb d_Rd_readFigures_118 (by decide) ?_
            have hk1 := cC_tl (tl := tl) (tb := tb) (k := fgB tl tb k + n) (by omega)
            exact ih47 (n + 1) _ _ _ (by omega) (by omega) (by rw [hfe, fgC_y h12 (by omega)]; rfl) (fun i hi => by by_cases e : i = n; (rw [e]; have := cC_in (tl := tl) (tb := tb) (k := fgB tl tb k + n) (by omega); omega); exact hfd i (by omega)) (hM) (lv_sub hl [1, 2, 3, 0] rfl)
  exact hL47 _ 0 _ _ _ (Nat.lt_succ_self _) (by omega) (rfl) (fun i hi => by omega) (hM) (lv_sub hl [2, 3, 1, 0] rfl)
set_option maxHeartbeats 4000000 in
set_option maxRecDepth 100000 in
theorem c_Rd_readName (l : Launch) (D : va_G) (cT : Nat → ClassId) (X : CX) (I : Nat → Int32) (a : Nat → Nat → Int32)  (adK adV : Nat → Nat) (N0 : Nat) (tl p0 k : Nat) (tb : Nat → Nat) (hN : ∀ q, CA X q → N0 ≤ q) (hT : CTp I a tl tb) (h31 : I 31 = nI k) (h33 : I 33 = nI k) (h36 : I 36 = 0) (hsk : skP tl tb p0 = k) (hkt : k < tl) (hlt : isLt (ch tl tb k) = true) : CZv l D cT X adK adV N0 y_Rd_readName b_Rd_readName 5 none 4 100 [.ref (X.1 3)] I a (fun u => u.2 = a ∧ (∀ q, ¬ (31 ≤ q ∧ q ≤ 37) ∨ q = 35 → u.1 q = I q) ∧ TKC u.1 (tok tl tb p0)) := by
  refine cz_entv (own := R_Rd) (by decide) rfl (Nat.le_of_ble_eq_true rfl) ?_
  intro p e s m args below meth c Q hC hK hM hZ hret ls hl
  have hx := hC.1
  have hb := hC.2.1
  replace hl : lv_has ls 5 [(0, .ref (X.1 3))] := hl
  have htb : ∀ j, j < tl → tb j < 256 := fun j hj => (hT.2.2 j hj).2
  have h160 := hT.2.1
  have hL0 : ∀ (nn : Nat) (n : Nat) (H : Heap) (locs : List Loc) (ls : Array Slot), 400 - n < nn → (k + n ≤ tl) → (ltE tl tb k = ltE tl tb (k + n)) → CO D cT (CA X) X (upd I 31 (nI (k + n))) a s.heap H locs → lv_has ls 5 [(0, .ref (X.1 3))] → W p l e (rmOf 4 100) s m args below meth c H locs 0 0 Q (F0 m 0 ls []) := by
    intro nn
    induction nn with
    | zero =>
      intro n H locs ls hmeas0 hn hlt2 hM hl
      exact absurd hmeas0 (Nat.not_lt_zero _)
    | succ nn ih0 =>
      intro n H locs ls hmeas0 hn hlt2 hM hl
      have hcb_1 := cC_b htb (k + n)
      refine lv_aload_n hx hb d_Rd_readName_0 rfl (lv_at hl 0 rfl) ?_
      refine rd_get hC in_Rd hK hM.1 3 (cw_he (by omega) (cE_3)) rfl 1 (by decide) wf_Rd_9 rfl (v := .int (nI (k + n))) (congrArg (fun z : Int32 => some (Value.int z)) (pk_us)) d_Rd_readName_1 ?_
      refine lv_sipush (v := 160) hx hb d_Rd_readName_4 (by decide) ?_
      refine nc_ge hx hb (k + n) 160 (by omega) (by omega) d_Rd_readName_7 (tgt := 40) (by decide) (fun h1 => ?_) (fun h1 => ?_)
      · skip
        have he : ltE tl tb k = k + n := by rw [hlt2]; first | exact ltC_n (by assumption) | exact ltC_e (by omega)
        refine lv_aload_n hx hb d_Rd_readName_40 rfl (lv_at hl 0 rfl) ?_
        refine lv_iconst (v := 1) hx hb d_Rd_readName_41 (by decide) ?_
        refine co_put hC in_Rd t_Rd t_Rd_ok n_Rd hK hM 3 (by omega) (cE_3) rfl 2 (by decide) wf_Rd_15 rfl rfl (ty := .int) (by decide +kernel) (x := 1) rfl rfl (Nat.le_of_ble_eq_true rfl) (by decide) (rfl) d_Rd_readName_42 (fun H locs hM => ?_)
        replace hM : CO D cT (CA X) X (upd (upd I 31 (nI (k + n))) 32 1) a s.heap H locs := hM
        refine lv_aload_n hx hb d_Rd_readName_45 rfl (lv_at hl 0 rfl) ?_
        refine lv_bipush (v := 10) hx hb d_Rd_readName_46 (by decide) ?_
        refine co_put hC in_Rd t_Rd t_Rd_ok n_Rd hK hM 3 (by omega) (cE_3) rfl 4 (by decide) wf_Rd_21 rfl rfl (ty := .int) (by decide +kernel) (x := 10) rfl rfl (Nat.le_of_ble_eq_true rfl) (by decide) (rfl) d_Rd_readName_48 (fun H locs hM => ?_)
        replace hM : CO D cT (CA X) X (upd (upd (upd I 31 (nI (k + n))) 32 1) 34 10) a s.heap H locs := hM
        refine lv_iconst (v := 0) hx hb d_Rd_readName_51 (by decide) ?_
        refine lv_istore_n (lv' := [(1, .int 0), (0, .ref (X.1 3))]) hx hb d_Rd_readName_52 rfl hl (by decide) rfl (fun ls hl => ?_)
        have hL53 : ∀ (nn : Nat) (kk : Nat) (H : Heap) (locs : List Loc) (ls : Array Slot), 10 - kk < nn → (kk ≤ 10) → CO D cT (CA X) X (upd (upd (upd I 31 (nI (k + n))) 32 1) 34 (nI (nmK (fun i => ch tl tb (k + i)) n kk))) a s.heap H locs → lv_has ls 5 [(0, .ref (X.1 3)), (1, .int (nI kk))] → W p l e (rmOf 4 100) s m args below meth c H locs 0 0 Q (F0 m 53 ls []) := by
          intro nn
          induction nn with
          | zero =>
            intro kk H locs ls hmeas53 hkk hM hl
            exact absurd hmeas53 (Nat.not_lt_zero _)
          | succ nn ih53 =>
            intro kk H locs ls hmeas53 hkk hM hl
            have hnk := nmK_10 (c := (fun i => ch tl tb (k + i))) (n := n) (k := kk) (by omega)
            refine lv_iload_n hx hb d_Rd_readName_53 rfl (lv_at hl 1 rfl) ?_
            refine lv_bipush (v := 10) hx hb d_Rd_readName_54 (by decide) ?_
            refine nc_ge hx hb kk 10 (by omega) (by omega) d_Rd_readName_56 (tgt := 159) (by decide) (fun h2 => ?_) (fun h2 => ?_)
            · skip
              refine lv_aload_n hx hb d_Rd_readName_159 rfl (lv_at hl 0 rfl) ?_
              refine rd_get hC in_Rd hK hM.1 3 (cw_he (by omega) (cE_3)) rfl 4 (by decide) wf_Rd_21 rfl (v := .int (nI (nmK (fun i => ch tl tb (k + i)) n kk))) (congrArg (fun z : Int32 => some (Value.int z)) (pk_us)) d_Rd_readName_160 ?_
              refine lv_bipush (v := 10) hx hb d_Rd_readName_163 (by decide) ?_
              refine nc_ne hx hb (nmK (fun i => ch tl tb (k + i)) n kk) 10 (by omega) (by omega) d_Rd_readName_165 (tgt := 177) (by decide) (fun h3 => ?_) (fun h3 => ?_)
              · skip
                refine hret _ _ _ _ _ _ d_Rd_readName_177 hM ?_
                obtain rfl : kk = 10 := by omega
                refine ⟨rfl, fun q hq => by show upd _ _ _ q = _; (repeat rw [pk_un (by omega)]), ?_⟩
                have ht1 := tk_nmC (n := n) hsk (by omega) hlt he
                rw [if_neg (by assumption)] at ht1
                rw [ht1]
                exact ⟨h33, fun z => absurd (show (1 : Nat) = 3 from z) (by decide), fun _ => ⟨h36, rfl, rfl, fun _ => rfl⟩⟩
              · skip
                refine lv_aload_n hx hb d_Rd_readName_168 rfl (lv_at hl 0 rfl) ?_
                refine lv_iconst (v := 1) hx hb d_Rd_readName_169 (by decide) ?_
                refine lv_aload_n hx hb d_Rd_readName_170 rfl (lv_at hl 0 rfl) ?_
                refine rd_get hC in_Rd hK hM.1 3 (cw_he (by omega) (cE_3)) rfl 3 (by decide) wf_Rd_18 rfl (v := .int (nI k)) (congrArg (fun z : Int32 => some (Value.int z)) ((pk_un (by omega)).trans ((pk_un (by omega)).trans ((pk_un (by omega)).trans (h33))))) d_Rd_readName_171 ?_
                refine co_callv (np := 2) hC hK hM (k := 3) (by omega) (cE_3) rfl (c_Rd_fail l D cT X (upd (upd (upd I 31 (nI (k + n))) 32 1) 34 (nI (nmK (fun i => ch tl tb (k + i)) n kk))) a 1 (nI k)) rfl ⟨wl_Rd_44, wi_Rd_fail, ws_Rd_fail, wc_Rd_fail, wn_Rd⟩ ⟨by decide, by decide, by decide +kernel⟩ ⟨Nat.le_of_ble_eq_true rfl, Nat.le_of_ble_eq_true rfl⟩ hl.1 rfl (rest := []) rfl (Nat.le_of_ble_eq_true rfl) ⟨Nat.zero_le _, Nat.zero_le _⟩ d_Rd_readName_174 (fun I4 a4 H locs hp4 hM => ?_)
                cases hp4
                refine hret _ _ _ _ _ _ d_Rd_readName_177 hM ?_
                obtain rfl : kk = 10 := by omega
                refine ⟨rfl, fun q hq => by show upd _ _ _ q = _; (repeat rw [pk_un (by omega)]), ?_⟩
                have ht1 := tk_nmC (n := n) hsk (by omega) hlt he
                rw [if_pos (by assumption)] at ht1
                rw [ht1]
                exact ⟨h33, fun _ => ⟨rfl, rfl⟩, fun z => absurd rfl z⟩
            · skip
              have hlk := lK_2 kk
              refine lv_iload_n hx hb d_Rd_readName_59 rfl (lv_at hl 1 rfl) ?_
              refine zs_callSq (np := 1) hC hZ hM.2.2 hN (c_Rd_nameOf l adK adV N0 kk (by omega)) ⟨wl_Rd_107, wt_Rd_nameOf, wc_Rd_nameOf, wn_Rd⟩ ⟨by decide, by decide, by decide +kernel⟩ ⟨Nat.le_of_ble_eq_true rfl, Nat.le_of_ble_eq_true rfl⟩ hl.1 rfl (rest := []) rfl (Nat.le_of_ble_eq_true rfl) ⟨Nat.zero_le _, Nat.zero_le _⟩ d_Rd_readName_60 (fun rr hrr => ?_)
              subst hrr
              refine lv_astore_n (lv' := [(2, .ref (adK kk)), (0, .ref (X.1 3)), (1, .int (nI kk))]) hx hb d_Rd_readName_63 rfl hl (by decide) rfl (fun ls hl => ?_)
              refine lv_aload_n hx hb d_Rd_readName_64 rfl (lv_at hl 0 rfl) ?_
              refine zs_callV (np := 0) hC hZ hM.2.2 hN (i := kk) (by omega) (c_St_length l adK adV N0 kk (by omega)) rfl ⟨wl_Rd_111, wi_St_length, ws_St_length, wc_St_length, wn_St⟩ ⟨by decide, by decide, by decide +kernel⟩ ⟨Nat.le_of_ble_eq_true rfl, Nat.le_of_ble_eq_true rfl⟩ hl.1 rfl (rest := []) rfl (Nat.le_of_ble_eq_true rfl) ⟨Nat.zero_le _, Nat.zero_le _⟩ d_Rd_readName_65 (fun rr hrr => ?_)
              subst hrr
              refine lv_aload_n hx hb d_Rd_readName_68 rfl (lv_at hl 1 rfl) ?_
              refine rd_get hC in_Rd hK hM.1 3 (cw_he (by omega) (cE_3)) rfl 1 (by decide) wf_Rd_9 rfl (v := .int (nI (k + n))) (congrArg (fun z : Int32 => some (Value.int z)) ((pk_un (by omega)).trans ((pk_un (by omega)).trans (pk_us)))) d_Rd_readName_69 ?_
              refine lv_aload_n hx hb d_Rd_readName_72 rfl (lv_at hl 1 rfl) ?_
              refine rd_get hC in_Rd hK hM.1 3 (cw_he (by omega) (cE_3)) rfl 3 (by decide) wf_Rd_18 rfl (v := .int (nI k)) (congrArg (fun z : Int32 => some (Value.int z)) ((pk_un (by omega)).trans ((pk_un (by omega)).trans ((pk_un (by omega)).trans (h33))))) d_Rd_readName_73 ?_
              refine lv_isub hx hb d_Rd_readName_76 ?_
              refine topi_eq (iI_sub (↑(k + n) : Int) (↑k : Int)) ?_
              have hJ5 : ∀ (H : Heap) (locs : List Loc) (ls : Array Slot), CO D cT (CA X) X (upd (upd (upd I 31 (nI (k + n))) 32 1) 34 (nI (nmK (fun i => ch tl tb (k + i)) n kk))) a s.heap H locs → lv_has ls 5 [(0, .ref (X.1 3)), (1, .int (nI kk)), (2, .ref (adK kk))] → W p l e (rmOf 4 100) s m args below meth c H locs 0 0 Q (F0 m 85 ls [.int (bI ((↑(lK kk) : Int) = ((↑(k + n) : Int) - (↑k : Int))))]) := ?_
              · skip
                refine zc_ne hx hb (↑(lK kk) : Int) ((↑(k + n) : Int) - (↑k : Int)) (by omega) (by omega) (by omega) (by omega) d_Rd_readName_77 (tgt := 84) (by decide) (fun h6 => ?_) (fun h6 => ?_)
                · skip
                  refine lv_iconst (v := 0) hx hb d_Rd_readName_84 (by decide) ?_
                  refine topi_eq (show (0 : Int32) = bI ((↑(lK kk) : Int) = ((↑(k + n) : Int) - (↑k : Int))) by first | rfl | exact (bI_t (by assumption)).symm | exact (bI_f (by assumption)).symm | exact (bI_f (fun z => z (by assumption))).symm | (rw [if_neg h6]; done) | (rw [if_neg h6]; rfl) | (simp only [if_neg h6]; done) | (simp only [if_neg h6]; rfl)) ?_
                  exact hJ5 _ _ _ (by first | exact hM | (simp only [if_neg h6]; exact hM)) (by first | exact lv_sub hl [1, 2, 0] rfl | (simp only [if_neg h6]; exact lv_sub hl [1, 2, 0] rfl))
                · skip
                  refine lv_iconst (v := 1) hx hb d_Rd_readName_80 (by decide) ?_
                  refine lv_goto (tgt := 85) hx hb d_Rd_readName_81 (by decide) ?_
                  refine topi_eq (show (1 : Int32) = bI ((↑(lK kk) : Int) = ((↑(k + n) : Int) - (↑k : Int))) by first | rfl | exact (bI_t (by assumption)).symm | exact (bI_f (by assumption)).symm | exact (bI_f (fun z => z (by assumption))).symm | (rw [if_pos h6]; done) | (rw [if_pos h6]; rfl) | (simp only [if_pos h6]; done) | (simp only [if_pos h6]; rfl)) ?_
                  exact hJ5 _ _ _ (by first | exact hM | (simp only [if_pos h6]; exact hM)) (by first | exact lv_sub hl [1, 2, 0] rfl | (simp only [if_pos h6]; exact lv_sub hl [1, 2, 0] rfl))
              intro H locs ls hM hl
              refine lv_istore_n (lv' := [(3, .int (bI ((↑(lK kk) : Int) = ((↑(k + n) : Int) - (↑k : Int))))), (0, .ref (X.1 3)), (1, .int (nI kk)), (2, .ref (adK kk))]) hx hb d_Rd_readName_85 rfl hl (by decide) rfl (fun ls hl => ?_)
              refine lv_iconst (v := 0) hx hb d_Rd_readName_86 (by decide) ?_
              refine lv_istore (lv' := [(4, .int 0), (3, .int (bI ((↑(lK kk) : Int) = ((↑(k + n) : Int) - (↑k : Int))))), (0, .ref (X.1 3)), (1, .int (nI kk)), (2, .ref (adK kk))]) hx hb d_Rd_readName_87 hl (by decide) rfl (fun ls hl => ?_)
              have hL89 : ∀ (nn : Nat) (i : Nat) (sm : Bool) (H : Heap) (locs : List Loc) (ls : Array Slot), 10 - i < nn → (i ≤ lK kk) → (sm = true → n = lK kk ∧ ∀ j, j < i → (fun i => ch tl tb (k + i)) j = cK kk j) → (sm = false → ¬ nmS kk (fun i => ch tl tb (k + i)) n) → CO D cT (CA X) X (upd (upd (upd I 31 (nI (k + n))) 32 1) 34 (nI (nmK (fun i => ch tl tb (k + i)) n kk))) a s.heap H locs → lv_has ls 5 [(0, .ref (X.1 3)), (1, .int (nI kk)), (2, .ref (adK kk)), (3, .int (bI (sm = true))), (4, .int (nI i))] → W p l e (rmOf 4 100) s m args below meth c H locs 0 0 Q (F0 m 89 ls []) := by
                intro nn
                induction nn with
                | zero =>
                  intro i sm H locs ls hmeas89 hi9 ht9 hf9 hM hl
                  exact absurd hmeas89 (Nat.not_lt_zero _)
                | succ nn ih89 =>
                  intro i sm H locs ls hmeas89 hi9 ht9 hf9 hM hl
                  refine lv_iload_n hx hb d_Rd_readName_89 rfl (lv_at hl 3 rfl) ?_
                  refine bz_eq (tgt := 137) hx hb d_Rd_readName_90 (by decide) (fun h7 => ?_) (fun h7 => ?_)
                  · skip
                    refine lv_aload_n hx hb d_Rd_readName_137 rfl (lv_at hl 0 rfl) ?_
                    refine lv_iload_n hx hb d_Rd_readName_138 rfl (lv_at hl 3 rfl) ?_
                    have hJ8 : ∀ (H : Heap) (locs : List Loc) (ls : Array Slot), CO D cT (CA X) X (upd (upd (upd I 31 (nI (k + n))) 32 1) 34 (nI (nmK (fun i => ch tl tb (k + i)) n kk))) a s.heap H locs → lv_has ls 5 [(0, .ref (X.1 3)), (1, .int (nI kk)), (2, .ref (adK kk)), (3, .int (bI (sm = true))), (4, .int (nI i))] → W p l e (rmOf 4 100) s m args below meth c H locs 0 0 Q (F0 m 150 ls [.int (nI (if sm = true then kk else nmK (fun i => ch tl tb (k + i)) n kk)), .ref (X.1 3)]) := ?_
                    · skip
                      refine bz_eq (tgt := 146) hx hb d_Rd_readName_139 (by decide) (fun h9 => ?_) (fun h9 => ?_)
                      · skip
                        refine lv_aload_n hx hb d_Rd_readName_146 rfl (lv_at hl 0 rfl) ?_
                        refine rd_get hC in_Rd hK hM.1 3 (cw_he (by omega) (cE_3)) rfl 4 (by decide) wf_Rd_21 rfl (v := .int (nI (nmK (fun i => ch tl tb (k + i)) n kk))) (congrArg (fun z : Int32 => some (Value.int z)) (pk_us)) d_Rd_readName_147 ?_
                        refine topi_eq (show (nI (nmK (fun i => ch tl tb (k + i)) n kk) : Int32) = nI (if sm = true then kk else nmK (fun i => ch tl tb (k + i)) n kk) by first | rfl | exact (bI_t (by assumption)).symm | exact (bI_f (by assumption)).symm | exact (bI_f (fun z => z (by assumption))).symm | (rw [if_neg h9]; done) | (rw [if_neg h9]; rfl) | (simp only [if_neg h9]; done) | (simp only [if_neg h9]; rfl)) ?_
                        exact hJ8 _ _ _ (by first | exact hM | (simp only [if_neg h9]; exact hM)) (by first | exact lv_sub hl [0, 1, 2, 3, 4] rfl | (simp only [if_neg h9]; exact lv_sub hl [0, 1, 2, 3, 4] rfl))
                      · skip
                        refine lv_iload_n hx hb d_Rd_readName_142 rfl (lv_at hl 1 rfl) ?_
                        refine lv_goto (tgt := 150) hx hb d_Rd_readName_143 (by decide) ?_
                        refine topi_eq (show (nI kk : Int32) = nI (if sm = true then kk else nmK (fun i => ch tl tb (k + i)) n kk) by first | rfl | exact (bI_t (by assumption)).symm | exact (bI_f (by assumption)).symm | exact (bI_f (fun z => z (by assumption))).symm | (rw [if_pos h9]; done) | (rw [if_pos h9]; rfl) | (simp only [if_pos h9]; done) | (simp only [if_pos h9]; rfl)) ?_
                        exact hJ8 _ _ _ (by first | exact hM | (simp only [if_pos h9]; exact hM)) (by first | exact lv_sub hl [0, 1, 2, 3, 4] rfl | (simp only [if_pos h9]; exact lv_sub hl [0, 1, 2, 3, 4] rfl))
                    intro H locs ls hM hl
                    refine topi_eq (show nI (if sm = true then kk else nmK (fun i => ch tl tb (k + i)) n kk) = nI (nmK (fun i => ch tl tb (k + i)) n (kk + 1)) from congrArg nI (nm_upd (i := i) (sm := sm) hi9 ht9 hf9 (by first | exact Or.inl (Bool.eq_false_iff.mpr (by assumption)) | exact Or.inr (by assumption)))) ?_
                    refine co_put hC in_Rd t_Rd t_Rd_ok n_Rd hK hM 3 (by omega) (cE_3) rfl 4 (by decide) wf_Rd_21 rfl rfl (ty := .int) (by decide +kernel) (x := nI (nmK (fun i => ch tl tb (k + i)) n (kk + 1))) rfl rfl (Nat.le_of_ble_eq_true rfl) (by decide) (rfl) d_Rd_readName_150 (fun H locs hM => ?_)
                    replace hM : CO D cT (CA X) X (upd (upd (upd (upd I 31 (nI (k + n))) 32 1) 34 (nI (nmK (fun i => ch tl tb (k + i)) n kk))) 34 (nI (nmK (fun i => ch tl tb (k + i)) n (kk + 1)))) a s.heap H locs := hM
                    rw [upd_upd] at hM
                    refine lv_iinc (v := nI (kk + 1)) (lv' := [(1, .int (nI (kk + 1))), (0, .ref (X.1 3)), (2, .ref (adK kk)), (3, .int (bI (sm = true))), (4, .int (nI i))]) hx hb d_Rd_readName_153 hl (k := 1) rfl (nI_add kk 1) (by decide) rfl (fun ls hl => ?_)
                    refine lv_goto (tgt := 53) hx hb d_Rd_readName_156 (by decide) ?_
                    exact ih53 (kk + 1) _ _ _ (by omega) (by omega) (hM) (lv_sub hl [1, 0] rfl)
                  · skip
                    refine lv_iload hx hb d_Rd_readName_93 (lv_at hl 4 rfl) ?_
                    refine lv_aload_n hx hb d_Rd_readName_95 rfl (lv_at hl 2 rfl) ?_
                    refine zs_callV (np := 0) hC hZ hM.2.2 hN (i := kk) (by omega) (c_St_length l adK adV N0 kk (by omega)) rfl ⟨wl_Rd_111, wi_St_length, ws_St_length, wc_St_length, wn_St⟩ ⟨by decide, by decide, by decide +kernel⟩ ⟨Nat.le_of_ble_eq_true rfl, Nat.le_of_ble_eq_true rfl⟩ hl.1 rfl (rest := [.int (nI i)]) rfl (Nat.le_of_ble_eq_true rfl) ⟨Nat.zero_le _, Nat.zero_le _⟩ d_Rd_readName_96 (fun rr hrr => ?_)
                    subst hrr
                    refine nc_ge hx hb i (lK kk) (by omega) (by omega) d_Rd_readName_99 (tgt := 137) (by decide) (fun h10 => ?_) (fun h10 => ?_)
                    · skip
                      refine lv_aload_n hx hb d_Rd_readName_137 rfl (lv_at hl 0 rfl) ?_
                      refine lv_iload_n hx hb d_Rd_readName_138 rfl (lv_at hl 3 rfl) ?_
                      have hJ11 : ∀ (H : Heap) (locs : List Loc) (ls : Array Slot), CO D cT (CA X) X (upd (upd (upd I 31 (nI (k + n))) 32 1) 34 (nI (nmK (fun i => ch tl tb (k + i)) n kk))) a s.heap H locs → lv_has ls 5 [(0, .ref (X.1 3)), (1, .int (nI kk)), (2, .ref (adK kk)), (3, .int (bI (sm = true))), (4, .int (nI i))] → W p l e (rmOf 4 100) s m args below meth c H locs 0 0 Q (F0 m 150 ls [.int (nI (if sm = true then kk else nmK (fun i => ch tl tb (k + i)) n kk)), .ref (X.1 3)]) := ?_
                      · skip
                        refine bz_eq (tgt := 146) hx hb d_Rd_readName_139 (by decide) (fun h12 => ?_) (fun h12 => ?_)
                        · skip
                          refine lv_aload_n hx hb d_Rd_readName_146 rfl (lv_at hl 0 rfl) ?_
                          refine rd_get hC in_Rd hK hM.1 3 (cw_he (by omega) (cE_3)) rfl 4 (by decide) wf_Rd_21 rfl (v := .int (nI (nmK (fun i => ch tl tb (k + i)) n kk))) (congrArg (fun z : Int32 => some (Value.int z)) (pk_us)) d_Rd_readName_147 ?_
                          refine topi_eq (show (nI (nmK (fun i => ch tl tb (k + i)) n kk) : Int32) = nI (if sm = true then kk else nmK (fun i => ch tl tb (k + i)) n kk) by first | rfl | exact (bI_t (by assumption)).symm | exact (bI_f (by assumption)).symm | exact (bI_f (fun z => z (by assumption))).symm | (rw [if_neg h12]; done) | (rw [if_neg h12]; rfl) | (simp only [if_neg h12]; done) | (simp only [if_neg h12]; rfl)) ?_
                          exact hJ11 _ _ _ (by first | exact hM | (simp only [if_neg h12]; exact hM)) (by first | exact lv_sub hl [0, 1, 2, 3, 4] rfl | (simp only [if_neg h12]; exact lv_sub hl [0, 1, 2, 3, 4] rfl))
                        · skip
                          refine lv_iload_n hx hb d_Rd_readName_142 rfl (lv_at hl 1 rfl) ?_
                          refine lv_goto (tgt := 150) hx hb d_Rd_readName_143 (by decide) ?_
                          refine topi_eq (show (nI kk : Int32) = nI (if sm = true then kk else nmK (fun i => ch tl tb (k + i)) n kk) by first | rfl | exact (bI_t (by assumption)).symm | exact (bI_f (by assumption)).symm | exact (bI_f (fun z => z (by assumption))).symm | (rw [if_pos h12]; done) | (rw [if_pos h12]; rfl) | (simp only [if_pos h12]; done) | (simp only [if_pos h12]; rfl)) ?_
                          exact hJ11 _ _ _ (by first | exact hM | (simp only [if_pos h12]; exact hM)) (by first | exact lv_sub hl [0, 1, 2, 3, 4] rfl | (simp only [if_pos h12]; exact lv_sub hl [0, 1, 2, 3, 4] rfl))
                      intro H locs ls hM hl
                      refine topi_eq (show nI (if sm = true then kk else nmK (fun i => ch tl tb (k + i)) n kk) = nI (nmK (fun i => ch tl tb (k + i)) n (kk + 1)) from congrArg nI (nm_upd (i := i) (sm := sm) hi9 ht9 hf9 (by first | exact Or.inl (Bool.eq_false_iff.mpr (by assumption)) | exact Or.inr (by assumption)))) ?_
                      refine co_put hC in_Rd t_Rd t_Rd_ok n_Rd hK hM 3 (by omega) (cE_3) rfl 4 (by decide) wf_Rd_21 rfl rfl (ty := .int) (by decide +kernel) (x := nI (nmK (fun i => ch tl tb (k + i)) n (kk + 1))) rfl rfl (Nat.le_of_ble_eq_true rfl) (by decide) (rfl) d_Rd_readName_150 (fun H locs hM => ?_)
                      replace hM : CO D cT (CA X) X (upd (upd (upd (upd I 31 (nI (k + n))) 32 1) 34 (nI (nmK (fun i => ch tl tb (k + i)) n kk))) 34 (nI (nmK (fun i => ch tl tb (k + i)) n (kk + 1)))) a s.heap H locs := hM
                      rw [upd_upd] at hM
                      refine lv_iinc (v := nI (kk + 1)) (lv' := [(1, .int (nI (kk + 1))), (0, .ref (X.1 3)), (2, .ref (adK kk)), (3, .int (bI (sm = true))), (4, .int (nI i))]) hx hb d_Rd_readName_153 hl (k := 1) rfl (nI_add kk 1) (by decide) rfl (fun ls hl => ?_)
                      refine lv_goto (tgt := 53) hx hb d_Rd_readName_156 (by decide) ?_
                      exact ih53 (kk + 1) _ _ _ (by omega) (by omega) (hM) (lv_sub hl [1, 0] rfl)
                    · skip
                      have hs9 : sm = true := by assumption
                      have hck := cK_b kk i
                      have hcb_2 := cC_b htb (k + i)
                      refine lv_aload_n hx hb d_Rd_readName_102 rfl (lv_at hl 2 rfl) ?_
                      refine lv_iload hx hb d_Rd_readName_103 (lv_at hl 4 rfl) ?_
                      refine zs_callV (np := 1) hC hZ hM.2.2 hN (i := kk) (by omega) (c_St_charAt l adK adV N0 kk i (by omega) (by omega)) rfl ⟨wl_Rd_117, wi_St_charAt, ws_St_charAt, wc_St_charAt, wn_St⟩ ⟨by decide, by decide, by decide +kernel⟩ ⟨Nat.le_of_ble_eq_true rfl, Nat.le_of_ble_eq_true rfl⟩ hl.1 rfl (rest := []) rfl (Nat.le_of_ble_eq_true rfl) ⟨Nat.zero_le _, Nat.zero_le _⟩ d_Rd_readName_105 (fun rr hrr => ?_)
                      subst hrr
                      refine lv_aload_n hx hb d_Rd_readName_108 rfl (lv_at hl 0 rfl) ?_
                      refine rd_get hC in_Rd hK hM.1 3 (cw_he (by omega) (cE_3)) rfl 0 (by decide) wf_Rd_33 rfl (v := .ref (X.1 1)) (rfl) d_Rd_readName_109 ?_
                      refine lv_aload_n hx hb d_Rd_readName_112 rfl (lv_at hl 0 rfl) ?_
                      refine rd_get hC in_Rd hK hM.1 3 (cw_he (by omega) (cE_3)) rfl 3 (by decide) wf_Rd_18 rfl (v := .int (nI k)) (congrArg (fun z : Int32 => some (Value.int z)) ((pk_un (by omega)).trans ((pk_un (by omega)).trans ((pk_un (by omega)).trans (h33))))) d_Rd_readName_113 ?_
                      refine lv_iload hx hb d_Rd_readName_116 (lv_at hl 4 rfl) ?_
                      refine lv_iadd hx hb d_Rd_readName_118 ?_
                      refine topi_eq (nI_add k i) ?_
                      refine rd_call (np := 1) hC hK hM.1 (cw_he (by omega) (cE_1)) rfl (c_Tp_byteAt l D cT X (upd (upd (upd I 31 (nI (k + n))) 32 1) 34 (nI (nmK (fun i => ch tl tb (k + i)) n kk))) a (k + i) tl ((pk_un (by omega)).trans ((pk_un (by omega)).trans ((pk_un (by omega)).trans (hT.1)))) hT.2.1 (by omega)) rfl ⟨wl_Rd_92, wi_Tp_byteAt, ws_Tp_byteAt, wc_Tp_byteAt, wn_Tp⟩ ⟨by decide, by decide, by decide +kernel⟩ ⟨Nat.le_of_ble_eq_true rfl, Nat.le_of_ble_eq_true rfl⟩ hl.1 rfl (rest := [.int (nI (cK kk i))]) rfl (Nat.le_of_ble_eq_true rfl) ⟨Nat.zero_le _, Nat.zero_le _⟩ d_Rd_readName_119 (fun rr hrr => ?_)
                      replace hrr : rr = iI (cC tl tb (k + i)) := hrr.trans (bC_v (fun j hj => (hT.2.2 j hj).1))
                      subst hrr
                      have hJ13 : ∀ (H : Heap) (locs : List Loc) (ls : Array Slot), CO D cT (CA X) X (upd (upd (upd I 31 (nI (k + n))) 32 1) 34 (nI (nmK (fun i => ch tl tb (k + i)) n kk))) a s.heap H locs → lv_has ls 5 [(0, .ref (X.1 3)), (1, .int (nI kk)), (2, .ref (adK kk)), (3, .int (bI (sm = true))), (4, .int (nI i))] → W p l e (rmOf 4 100) s m args below meth c H locs 0 0 Q (F0 m 130 ls [.int (bI ((↑(cK kk i) : Int) = (cC tl tb (k + i))))]) := ?_
                      · skip
                        refine zc_ne hx hb (↑(cK kk i) : Int) (cC tl tb (k + i)) (by omega) (by omega) (by omega) (by omega) d_Rd_readName_122 (tgt := 129) (by decide) (fun h14 => ?_) (fun h14 => ?_)
                        · skip
                          refine lv_iconst (v := 0) hx hb d_Rd_readName_129 (by decide) ?_
                          refine topi_eq (show (0 : Int32) = bI ((↑(cK kk i) : Int) = (cC tl tb (k + i))) by first | rfl | exact (bI_t (by assumption)).symm | exact (bI_f (by assumption)).symm | exact (bI_f (fun z => z (by assumption))).symm | (rw [if_neg h14]; done) | (rw [if_neg h14]; rfl) | (simp only [if_neg h14]; done) | (simp only [if_neg h14]; rfl)) ?_
                          exact hJ13 _ _ _ (by first | exact hM | (simp only [if_neg h14]; exact hM)) (by first | exact lv_sub hl [0, 1, 2, 3, 4] rfl | (simp only [if_neg h14]; exact lv_sub hl [0, 1, 2, 3, 4] rfl))
                        · skip
                          refine lv_iconst (v := 1) hx hb d_Rd_readName_125 (by decide) ?_
                          refine lv_goto (tgt := 130) hx hb d_Rd_readName_126 (by decide) ?_
                          refine topi_eq (show (1 : Int32) = bI ((↑(cK kk i) : Int) = (cC tl tb (k + i))) by first | rfl | exact (bI_t (by assumption)).symm | exact (bI_f (by assumption)).symm | exact (bI_f (fun z => z (by assumption))).symm | (rw [if_pos h14]; done) | (rw [if_pos h14]; rfl) | (simp only [if_pos h14]; done) | (simp only [if_pos h14]; rfl)) ?_
                          exact hJ13 _ _ _ (by first | exact hM | (simp only [if_pos h14]; exact hM)) (by first | exact lv_sub hl [0, 1, 2, 3, 4] rfl | (simp only [if_pos h14]; exact lv_sub hl [0, 1, 2, 3, 4] rfl))
                      intro H locs ls hM hl
                      refine lv_istore_n (lv' := [(3, .int (bI ((↑(cK kk i) : Int) = (cC tl tb (k + i))))), (0, .ref (X.1 3)), (1, .int (nI kk)), (2, .ref (adK kk)), (4, .int (nI i))]) hx hb d_Rd_readName_130 rfl hl (by decide) rfl (fun ls hl => ?_)
                      refine lv_iinc (v := nI (i + 1)) (lv' := [(4, .int (nI (i + 1))), (3, .int (bI ((↑(cK kk i) : Int) = (cC tl tb (k + i))))), (0, .ref (X.1 3)), (1, .int (nI kk)), (2, .ref (adK kk))]) hx hb d_Rd_readName_131 hl (k := 4) rfl (nI_add i 1) (by decide) rfl (fun ls hl => ?_)
                      refine lv_goto (tgt := 89) hx hb d_Rd_readName_134 (by decide) ?_
                      exact ih89 (i + 1) (decide ((cK kk i : Int) = cC tl tb (k + i))) _ _ _ (by omega) (by omega) (fun z => ⟨(ht9 hs9).1, fun j hj => by by_cases e : j = i; (rw [e]; have z2 := of_decide_eq_true z; exact (cC_c (tl := tl) (tb := tb) (k := k + i) (c := cK kk i) (by have := cK_b kk i; omega)).mp z2.symm); exact (ht9 hs9).2 j (by omega)⟩) (fun z y => of_decide_eq_false z ((cC_c (tl := tl) (tb := tb) (k := k + i) (c := cK kk i) (by have := cK_b kk i; omega)).mpr (y.2 i (by omega))).symm) (hM) (by rw [show bI (decide ((cK kk i : Int) = cC tl tb (k + i)) = true) = bI ((↑(cK kk i) : Int) = (cC tl tb (k + i))) from bI_c (by rw [decide_eq_true_iff])]; exact lv_sub hl [2, 3, 4, 1, 0] rfl)
              exact hL89 _ 0 (decide (lK kk = n)) _ _ _ (Nat.lt_succ_self _) (Nat.zero_le _) (fun z => ⟨(of_decide_eq_true z).symm, fun j hj => by omega⟩) (fun z y => of_decide_eq_false z y.1.symm) (hM) (by rw [show bI (decide (lK kk = n) = true) = bI ((↑(lK kk) : Int) = ((↑(k + n) : Int) - (↑k : Int))) from bI_c (by rw [decide_eq_true_iff]; first | exact Iff.rfl | omega)]; exact lv_sub hl [2, 3, 4, 1, 0] rfl)
        exact hL53 _ 0 _ _ _ (Nat.lt_succ_self _) (by omega) (hM) (lv_sub hl [1, 0] rfl)
      · skip
        refine lv_aload_n hx hb d_Rd_readName_10 rfl (lv_at hl 0 rfl) ?_
        refine rd_get hC in_Rd hK hM.1 3 (cw_he (by omega) (cE_3)) rfl 0 (by decide) wf_Rd_33 rfl (v := .ref (X.1 1)) (rfl) d_Rd_readName_11 ?_
        refine lv_aload_n hx hb d_Rd_readName_14 rfl (lv_at hl 0 rfl) ?_
        refine rd_get hC in_Rd hK hM.1 3 (cw_he (by omega) (cE_3)) rfl 1 (by decide) wf_Rd_9 rfl (v := .int (nI (k + n))) (congrArg (fun z : Int32 => some (Value.int z)) (pk_us)) d_Rd_readName_15 ?_
        refine rd_call (np := 1) hC hK hM.1 (cw_he (by omega) (cE_1)) rfl (c_Tp_byteAt l D cT X (upd I 31 (nI (k + n))) a (k + n) tl ((pk_un (by omega)).trans (hT.1)) hT.2.1 (by omega)) rfl ⟨wl_Rd_92, wi_Tp_byteAt, ws_Tp_byteAt, wc_Tp_byteAt, wn_Tp⟩ ⟨by decide, by decide, by decide +kernel⟩ ⟨Nat.le_of_ble_eq_true rfl, Nat.le_of_ble_eq_true rfl⟩ hl.1 rfl (rest := []) rfl (Nat.le_of_ble_eq_true rfl) ⟨Nat.zero_le _, Nat.zero_le _⟩ d_Rd_readName_18 (fun rr hrr => ?_)
        replace hrr : rr = iI (cC tl tb (k + n)) := hrr.trans (bC_v (fun j hj => (hT.2.2 j hj).1))
        subst hrr
        refine st_calli (np := 1) hC (c_Rd_isLetter l (iI (cC tl tb (k + n))) (cC tl tb (k + n)) (iI_toInt (z := cC tl tb (k + n)) (by omega) (by omega))) ⟨wl_Rd_95, wt_Rd_isLetter, wc_Rd_isLetter, wn_Rd⟩ ⟨by decide, by decide, by decide +kernel⟩ ⟨Nat.le_of_ble_eq_true rfl, Nat.le_of_ble_eq_true rfl⟩ hl.1 rfl (rest := []) rfl (Nat.le_of_ble_eq_true rfl) ⟨Nat.zero_le _, Nat.zero_le _⟩ d_Rd_readName_21 (fun rr hrr => ?_)
        subst hrr
        refine bz_eq (tgt := 40) hx hb d_Rd_readName_24 (by decide) (fun h15 => ?_) (fun h15 => ?_)
        · skip
          have he : ltE tl tb k = k + n := by rw [hlt2]; first | exact ltC_n (by assumption) | exact ltC_e (by omega)
          refine lv_aload_n hx hb d_Rd_readName_40 rfl (lv_at hl 0 rfl) ?_
          refine lv_iconst (v := 1) hx hb d_Rd_readName_41 (by decide) ?_
          refine co_put hC in_Rd t_Rd t_Rd_ok n_Rd hK hM 3 (by omega) (cE_3) rfl 2 (by decide) wf_Rd_15 rfl rfl (ty := .int) (by decide +kernel) (x := 1) rfl rfl (Nat.le_of_ble_eq_true rfl) (by decide) (rfl) d_Rd_readName_42 (fun H locs hM => ?_)
          replace hM : CO D cT (CA X) X (upd (upd I 31 (nI (k + n))) 32 1) a s.heap H locs := hM
          refine lv_aload_n hx hb d_Rd_readName_45 rfl (lv_at hl 0 rfl) ?_
          refine lv_bipush (v := 10) hx hb d_Rd_readName_46 (by decide) ?_
          refine co_put hC in_Rd t_Rd t_Rd_ok n_Rd hK hM 3 (by omega) (cE_3) rfl 4 (by decide) wf_Rd_21 rfl rfl (ty := .int) (by decide +kernel) (x := 10) rfl rfl (Nat.le_of_ble_eq_true rfl) (by decide) (rfl) d_Rd_readName_48 (fun H locs hM => ?_)
          replace hM : CO D cT (CA X) X (upd (upd (upd I 31 (nI (k + n))) 32 1) 34 10) a s.heap H locs := hM
          refine lv_iconst (v := 0) hx hb d_Rd_readName_51 (by decide) ?_
          refine lv_istore_n (lv' := [(1, .int 0), (0, .ref (X.1 3))]) hx hb d_Rd_readName_52 rfl hl (by decide) rfl (fun ls hl => ?_)
          have hL53 : ∀ (nn : Nat) (kk : Nat) (H : Heap) (locs : List Loc) (ls : Array Slot), 10 - kk < nn → (kk ≤ 10) → CO D cT (CA X) X (upd (upd (upd I 31 (nI (k + n))) 32 1) 34 (nI (nmK (fun i => ch tl tb (k + i)) n kk))) a s.heap H locs → lv_has ls 5 [(0, .ref (X.1 3)), (1, .int (nI kk))] → W p l e (rmOf 4 100) s m args below meth c H locs 0 0 Q (F0 m 53 ls []) := by
            intro nn
            induction nn with
            | zero =>
              intro kk H locs ls hmeas53 hkk hM hl
              exact absurd hmeas53 (Nat.not_lt_zero _)
            | succ nn ih53 =>
              intro kk H locs ls hmeas53 hkk hM hl
              have hnk := nmK_10 (c := (fun i => ch tl tb (k + i))) (n := n) (k := kk) (by omega)
              refine lv_iload_n hx hb d_Rd_readName_53 rfl (lv_at hl 1 rfl) ?_
              refine lv_bipush (v := 10) hx hb d_Rd_readName_54 (by decide) ?_
              refine nc_ge hx hb kk 10 (by omega) (by omega) d_Rd_readName_56 (tgt := 159) (by decide) (fun h16 => ?_) (fun h16 => ?_)
              · skip
                refine lv_aload_n hx hb d_Rd_readName_159 rfl (lv_at hl 0 rfl) ?_
                refine rd_get hC in_Rd hK hM.1 3 (cw_he (by omega) (cE_3)) rfl 4 (by decide) wf_Rd_21 rfl (v := .int (nI (nmK (fun i => ch tl tb (k + i)) n kk))) (congrArg (fun z : Int32 => some (Value.int z)) (pk_us)) d_Rd_readName_160 ?_
                refine lv_bipush (v := 10) hx hb d_Rd_readName_163 (by decide) ?_
                refine nc_ne hx hb (nmK (fun i => ch tl tb (k + i)) n kk) 10 (by omega) (by omega) d_Rd_readName_165 (tgt := 177) (by decide) (fun h17 => ?_) (fun h17 => ?_)
                · skip
                  refine hret _ _ _ _ _ _ d_Rd_readName_177 hM ?_
                  obtain rfl : kk = 10 := by omega
                  refine ⟨rfl, fun q hq => by show upd _ _ _ q = _; (repeat rw [pk_un (by omega)]), ?_⟩
                  have ht1 := tk_nmC (n := n) hsk (by omega) hlt he
                  rw [if_neg (by assumption)] at ht1
                  rw [ht1]
                  exact ⟨h33, fun z => absurd (show (1 : Nat) = 3 from z) (by decide), fun _ => ⟨h36, rfl, rfl, fun _ => rfl⟩⟩
                · skip
                  refine lv_aload_n hx hb d_Rd_readName_168 rfl (lv_at hl 0 rfl) ?_
                  refine lv_iconst (v := 1) hx hb d_Rd_readName_169 (by decide) ?_
                  refine lv_aload_n hx hb d_Rd_readName_170 rfl (lv_at hl 0 rfl) ?_
                  refine rd_get hC in_Rd hK hM.1 3 (cw_he (by omega) (cE_3)) rfl 3 (by decide) wf_Rd_18 rfl (v := .int (nI k)) (congrArg (fun z : Int32 => some (Value.int z)) ((pk_un (by omega)).trans ((pk_un (by omega)).trans ((pk_un (by omega)).trans (h33))))) d_Rd_readName_171 ?_
                  refine co_callv (np := 2) hC hK hM (k := 3) (by omega) (cE_3) rfl (c_Rd_fail l D cT X (upd (upd (upd I 31 (nI (k + n))) 32 1) 34 (nI (nmK (fun i => ch tl tb (k + i)) n kk))) a 1 (nI k)) rfl ⟨wl_Rd_44, wi_Rd_fail, ws_Rd_fail, wc_Rd_fail, wn_Rd⟩ ⟨by decide, by decide, by decide +kernel⟩ ⟨Nat.le_of_ble_eq_true rfl, Nat.le_of_ble_eq_true rfl⟩ hl.1 rfl (rest := []) rfl (Nat.le_of_ble_eq_true rfl) ⟨Nat.zero_le _, Nat.zero_le _⟩ d_Rd_readName_174 (fun I18 a18 H locs hp18 hM => ?_)
                  cases hp18
                  refine hret _ _ _ _ _ _ d_Rd_readName_177 hM ?_
                  obtain rfl : kk = 10 := by omega
                  refine ⟨rfl, fun q hq => by show upd _ _ _ q = _; (repeat rw [pk_un (by omega)]), ?_⟩
                  have ht1 := tk_nmC (n := n) hsk (by omega) hlt he
                  rw [if_pos (by assumption)] at ht1
                  rw [ht1]
                  exact ⟨h33, fun _ => ⟨rfl, rfl⟩, fun z => absurd rfl z⟩
              · skip
                have hlk := lK_2 kk
                refine lv_iload_n hx hb d_Rd_readName_59 rfl (lv_at hl 1 rfl) ?_
                refine zs_callSq (np := 1) hC hZ hM.2.2 hN (c_Rd_nameOf l adK adV N0 kk (by omega)) ⟨wl_Rd_107, wt_Rd_nameOf, wc_Rd_nameOf, wn_Rd⟩ ⟨by decide, by decide, by decide +kernel⟩ ⟨Nat.le_of_ble_eq_true rfl, Nat.le_of_ble_eq_true rfl⟩ hl.1 rfl (rest := []) rfl (Nat.le_of_ble_eq_true rfl) ⟨Nat.zero_le _, Nat.zero_le _⟩ d_Rd_readName_60 (fun rr hrr => ?_)
                subst hrr
                refine lv_astore_n (lv' := [(2, .ref (adK kk)), (0, .ref (X.1 3)), (1, .int (nI kk))]) hx hb d_Rd_readName_63 rfl hl (by decide) rfl (fun ls hl => ?_)
                refine lv_aload_n hx hb d_Rd_readName_64 rfl (lv_at hl 0 rfl) ?_
                refine zs_callV (np := 0) hC hZ hM.2.2 hN (i := kk) (by omega) (c_St_length l adK adV N0 kk (by omega)) rfl ⟨wl_Rd_111, wi_St_length, ws_St_length, wc_St_length, wn_St⟩ ⟨by decide, by decide, by decide +kernel⟩ ⟨Nat.le_of_ble_eq_true rfl, Nat.le_of_ble_eq_true rfl⟩ hl.1 rfl (rest := []) rfl (Nat.le_of_ble_eq_true rfl) ⟨Nat.zero_le _, Nat.zero_le _⟩ d_Rd_readName_65 (fun rr hrr => ?_)
                subst hrr
                refine lv_aload_n hx hb d_Rd_readName_68 rfl (lv_at hl 1 rfl) ?_
                refine rd_get hC in_Rd hK hM.1 3 (cw_he (by omega) (cE_3)) rfl 1 (by decide) wf_Rd_9 rfl (v := .int (nI (k + n))) (congrArg (fun z : Int32 => some (Value.int z)) ((pk_un (by omega)).trans ((pk_un (by omega)).trans (pk_us)))) d_Rd_readName_69 ?_
                refine lv_aload_n hx hb d_Rd_readName_72 rfl (lv_at hl 1 rfl) ?_
                refine rd_get hC in_Rd hK hM.1 3 (cw_he (by omega) (cE_3)) rfl 3 (by decide) wf_Rd_18 rfl (v := .int (nI k)) (congrArg (fun z : Int32 => some (Value.int z)) ((pk_un (by omega)).trans ((pk_un (by omega)).trans ((pk_un (by omega)).trans (h33))))) d_Rd_readName_73 ?_
                refine lv_isub hx hb d_Rd_readName_76 ?_
                refine topi_eq (iI_sub (↑(k + n) : Int) (↑k : Int)) ?_
                have hJ19 : ∀ (H : Heap) (locs : List Loc) (ls : Array Slot), CO D cT (CA X) X (upd (upd (upd I 31 (nI (k + n))) 32 1) 34 (nI (nmK (fun i => ch tl tb (k + i)) n kk))) a s.heap H locs → lv_has ls 5 [(0, .ref (X.1 3)), (1, .int (nI kk)), (2, .ref (adK kk))] → W p l e (rmOf 4 100) s m args below meth c H locs 0 0 Q (F0 m 85 ls [.int (bI ((↑(lK kk) : Int) = ((↑(k + n) : Int) - (↑k : Int))))]) := ?_
                · skip
                  refine zc_ne hx hb (↑(lK kk) : Int) ((↑(k + n) : Int) - (↑k : Int)) (by omega) (by omega) (by omega) (by omega) d_Rd_readName_77 (tgt := 84) (by decide) (fun h20 => ?_) (fun h20 => ?_)
                  · skip
                    refine lv_iconst (v := 0) hx hb d_Rd_readName_84 (by decide) ?_
                    refine topi_eq (show (0 : Int32) = bI ((↑(lK kk) : Int) = ((↑(k + n) : Int) - (↑k : Int))) by first | rfl | exact (bI_t (by assumption)).symm | exact (bI_f (by assumption)).symm | exact (bI_f (fun z => z (by assumption))).symm | (rw [if_neg h20]; done) | (rw [if_neg h20]; rfl) | (simp only [if_neg h20]; done) | (simp only [if_neg h20]; rfl)) ?_
                    exact hJ19 _ _ _ (by first | exact hM | (simp only [if_neg h20]; exact hM)) (by first | exact lv_sub hl [1, 2, 0] rfl | (simp only [if_neg h20]; exact lv_sub hl [1, 2, 0] rfl))
                  · skip
                    refine lv_iconst (v := 1) hx hb d_Rd_readName_80 (by decide) ?_
                    refine lv_goto (tgt := 85) hx hb d_Rd_readName_81 (by decide) ?_
                    refine topi_eq (show (1 : Int32) = bI ((↑(lK kk) : Int) = ((↑(k + n) : Int) - (↑k : Int))) by first | rfl | exact (bI_t (by assumption)).symm | exact (bI_f (by assumption)).symm | exact (bI_f (fun z => z (by assumption))).symm | (rw [if_pos h20]; done) | (rw [if_pos h20]; rfl) | (simp only [if_pos h20]; done) | (simp only [if_pos h20]; rfl)) ?_
                    exact hJ19 _ _ _ (by first | exact hM | (simp only [if_pos h20]; exact hM)) (by first | exact lv_sub hl [1, 2, 0] rfl | (simp only [if_pos h20]; exact lv_sub hl [1, 2, 0] rfl))
                intro H locs ls hM hl
                refine lv_istore_n (lv' := [(3, .int (bI ((↑(lK kk) : Int) = ((↑(k + n) : Int) - (↑k : Int))))), (0, .ref (X.1 3)), (1, .int (nI kk)), (2, .ref (adK kk))]) hx hb d_Rd_readName_85 rfl hl (by decide) rfl (fun ls hl => ?_)
                refine lv_iconst (v := 0) hx hb d_Rd_readName_86 (by decide) ?_
                refine lv_istore (lv' := [(4, .int 0), (3, .int (bI ((↑(lK kk) : Int) = ((↑(k + n) : Int) - (↑k : Int))))), (0, .ref (X.1 3)), (1, .int (nI kk)), (2, .ref (adK kk))]) hx hb d_Rd_readName_87 hl (by decide) rfl (fun ls hl => ?_)
                have hL89 : ∀ (nn : Nat) (i : Nat) (sm : Bool) (H : Heap) (locs : List Loc) (ls : Array Slot), 10 - i < nn → (i ≤ lK kk) → (sm = true → n = lK kk ∧ ∀ j, j < i → (fun i => ch tl tb (k + i)) j = cK kk j) → (sm = false → ¬ nmS kk (fun i => ch tl tb (k + i)) n) → CO D cT (CA X) X (upd (upd (upd I 31 (nI (k + n))) 32 1) 34 (nI (nmK (fun i => ch tl tb (k + i)) n kk))) a s.heap H locs → lv_has ls 5 [(0, .ref (X.1 3)), (1, .int (nI kk)), (2, .ref (adK kk)), (3, .int (bI (sm = true))), (4, .int (nI i))] → W p l e (rmOf 4 100) s m args below meth c H locs 0 0 Q (F0 m 89 ls []) := by
                  intro nn
                  induction nn with
                  | zero =>
                    intro i sm H locs ls hmeas89 hi9 ht9 hf9 hM hl
                    exact absurd hmeas89 (Nat.not_lt_zero _)
                  | succ nn ih89 =>
                    intro i sm H locs ls hmeas89 hi9 ht9 hf9 hM hl
                    refine lv_iload_n hx hb d_Rd_readName_89 rfl (lv_at hl 3 rfl) ?_
                    refine bz_eq (tgt := 137) hx hb d_Rd_readName_90 (by decide) (fun h21 => ?_) (fun h21 => ?_)
                    · skip
                      refine lv_aload_n hx hb d_Rd_readName_137 rfl (lv_at hl 0 rfl) ?_
                      refine lv_iload_n hx hb d_Rd_readName_138 rfl (lv_at hl 3 rfl) ?_
                      have hJ22 : ∀ (H : Heap) (locs : List Loc) (ls : Array Slot), CO D cT (CA X) X (upd (upd (upd I 31 (nI (k + n))) 32 1) 34 (nI (nmK (fun i => ch tl tb (k + i)) n kk))) a s.heap H locs → lv_has ls 5 [(0, .ref (X.1 3)), (1, .int (nI kk)), (2, .ref (adK kk)), (3, .int (bI (sm = true))), (4, .int (nI i))] → W p l e (rmOf 4 100) s m args below meth c H locs 0 0 Q (F0 m 150 ls [.int (nI (if sm = true then kk else nmK (fun i => ch tl tb (k + i)) n kk)), .ref (X.1 3)]) := ?_
                      · skip
                        refine bz_eq (tgt := 146) hx hb d_Rd_readName_139 (by decide) (fun h23 => ?_) (fun h23 => ?_)
                        · skip
                          refine lv_aload_n hx hb d_Rd_readName_146 rfl (lv_at hl 0 rfl) ?_
                          refine rd_get hC in_Rd hK hM.1 3 (cw_he (by omega) (cE_3)) rfl 4 (by decide) wf_Rd_21 rfl (v := .int (nI (nmK (fun i => ch tl tb (k + i)) n kk))) (congrArg (fun z : Int32 => some (Value.int z)) (pk_us)) d_Rd_readName_147 ?_
                          refine topi_eq (show (nI (nmK (fun i => ch tl tb (k + i)) n kk) : Int32) = nI (if sm = true then kk else nmK (fun i => ch tl tb (k + i)) n kk) by first | rfl | exact (bI_t (by assumption)).symm | exact (bI_f (by assumption)).symm | exact (bI_f (fun z => z (by assumption))).symm | (rw [if_neg h23]; done) | (rw [if_neg h23]; rfl) | (simp only [if_neg h23]; done) | (simp only [if_neg h23]; rfl)) ?_
                          exact hJ22 _ _ _ (by first | exact hM | (simp only [if_neg h23]; exact hM)) (by first | exact lv_sub hl [0, 1, 2, 3, 4] rfl | (simp only [if_neg h23]; exact lv_sub hl [0, 1, 2, 3, 4] rfl))
                        · skip
                          refine lv_iload_n hx hb d_Rd_readName_142 rfl (lv_at hl 1 rfl) ?_
                          refine lv_goto (tgt := 150) hx hb d_Rd_readName_143 (by decide) ?_
                          refine topi_eq (show (nI kk : Int32) = nI (if sm = true then kk else nmK (fun i => ch tl tb (k + i)) n kk) by first | rfl | exact (bI_t (by assumption)).symm | exact (bI_f (by assumption)).symm | exact (bI_f (fun z => z (by assumption))).symm | (rw [if_pos h23]; done) | (rw [if_pos h23]; rfl) | (simp only [if_pos h23]; done) | (simp only [if_pos h23]; rfl)) ?_
                          exact hJ22 _ _ _ (by first | exact hM | (simp only [if_pos h23]; exact hM)) (by first | exact lv_sub hl [0, 1, 2, 3, 4] rfl | (simp only [if_pos h23]; exact lv_sub hl [0, 1, 2, 3, 4] rfl))
                      intro H locs ls hM hl
                      refine topi_eq (show nI (if sm = true then kk else nmK (fun i => ch tl tb (k + i)) n kk) = nI (nmK (fun i => ch tl tb (k + i)) n (kk + 1)) from congrArg nI (nm_upd (i := i) (sm := sm) hi9 ht9 hf9 (by first | exact Or.inl (Bool.eq_false_iff.mpr (by assumption)) | exact Or.inr (by assumption)))) ?_
                      refine co_put hC in_Rd t_Rd t_Rd_ok n_Rd hK hM 3 (by omega) (cE_3) rfl 4 (by decide) wf_Rd_21 rfl rfl (ty := .int) (by decide +kernel) (x := nI (nmK (fun i => ch tl tb (k + i)) n (kk + 1))) rfl rfl (Nat.le_of_ble_eq_true rfl) (by decide) (rfl) d_Rd_readName_150 (fun H locs hM => ?_)
                      replace hM : CO D cT (CA X) X (upd (upd (upd (upd I 31 (nI (k + n))) 32 1) 34 (nI (nmK (fun i => ch tl tb (k + i)) n kk))) 34 (nI (nmK (fun i => ch tl tb (k + i)) n (kk + 1)))) a s.heap H locs := hM
                      rw [upd_upd] at hM
                      refine lv_iinc (v := nI (kk + 1)) (lv' := [(1, .int (nI (kk + 1))), (0, .ref (X.1 3)), (2, .ref (adK kk)), (3, .int (bI (sm = true))), (4, .int (nI i))]) hx hb d_Rd_readName_153 hl (k := 1) rfl (nI_add kk 1) (by decide) rfl (fun ls hl => ?_)
                      refine lv_goto (tgt := 53) hx hb d_Rd_readName_156 (by decide) ?_
                      exact ih53 (kk + 1) _ _ _ (by omega) (by omega) (hM) (lv_sub hl [1, 0] rfl)
                    · skip
                      refine lv_iload hx hb d_Rd_readName_93 (lv_at hl 4 rfl) ?_
                      refine lv_aload_n hx hb d_Rd_readName_95 rfl (lv_at hl 2 rfl) ?_
                      refine zs_callV (np := 0) hC hZ hM.2.2 hN (i := kk) (by omega) (c_St_length l adK adV N0 kk (by omega)) rfl ⟨wl_Rd_111, wi_St_length, ws_St_length, wc_St_length, wn_St⟩ ⟨by decide, by decide, by decide +kernel⟩ ⟨Nat.le_of_ble_eq_true rfl, Nat.le_of_ble_eq_true rfl⟩ hl.1 rfl (rest := [.int (nI i)]) rfl (Nat.le_of_ble_eq_true rfl) ⟨Nat.zero_le _, Nat.zero_le _⟩ d_Rd_readName_96 (fun rr hrr => ?_)
                      subst hrr
                      refine nc_ge hx hb i (lK kk) (by omega) (by omega) d_Rd_readName_99 (tgt := 137) (by decide) (fun h24 => ?_) (fun h24 => ?_)
                      · skip
                        refine lv_aload_n hx hb d_Rd_readName_137 rfl (lv_at hl 0 rfl) ?_
                        refine lv_iload_n hx hb d_Rd_readName_138 rfl (lv_at hl 3 rfl) ?_
                        have hJ25 : ∀ (H : Heap) (locs : List Loc) (ls : Array Slot), CO D cT (CA X) X (upd (upd (upd I 31 (nI (k + n))) 32 1) 34 (nI (nmK (fun i => ch tl tb (k + i)) n kk))) a s.heap H locs → lv_has ls 5 [(0, .ref (X.1 3)), (1, .int (nI kk)), (2, .ref (adK kk)), (3, .int (bI (sm = true))), (4, .int (nI i))] → W p l e (rmOf 4 100) s m args below meth c H locs 0 0 Q (F0 m 150 ls [.int (nI (if sm = true then kk else nmK (fun i => ch tl tb (k + i)) n kk)), .ref (X.1 3)]) := ?_
                        · skip
                          refine bz_eq (tgt := 146) hx hb d_Rd_readName_139 (by decide) (fun h26 => ?_) (fun h26 => ?_)
                          · skip
                            refine lv_aload_n hx hb d_Rd_readName_146 rfl (lv_at hl 0 rfl) ?_
                            refine rd_get hC in_Rd hK hM.1 3 (cw_he (by omega) (cE_3)) rfl 4 (by decide) wf_Rd_21 rfl (v := .int (nI (nmK (fun i => ch tl tb (k + i)) n kk))) (congrArg (fun z : Int32 => some (Value.int z)) (pk_us)) d_Rd_readName_147 ?_
                            refine topi_eq (show (nI (nmK (fun i => ch tl tb (k + i)) n kk) : Int32) = nI (if sm = true then kk else nmK (fun i => ch tl tb (k + i)) n kk) by first | rfl | exact (bI_t (by assumption)).symm | exact (bI_f (by assumption)).symm | exact (bI_f (fun z => z (by assumption))).symm | (rw [if_neg h26]; done) | (rw [if_neg h26]; rfl) | (simp only [if_neg h26]; done) | (simp only [if_neg h26]; rfl)) ?_
                            exact hJ25 _ _ _ (by first | exact hM | (simp only [if_neg h26]; exact hM)) (by first | exact lv_sub hl [0, 1, 2, 3, 4] rfl | (simp only [if_neg h26]; exact lv_sub hl [0, 1, 2, 3, 4] rfl))
                          · skip
                            refine lv_iload_n hx hb d_Rd_readName_142 rfl (lv_at hl 1 rfl) ?_
                            refine lv_goto (tgt := 150) hx hb d_Rd_readName_143 (by decide) ?_
                            refine topi_eq (show (nI kk : Int32) = nI (if sm = true then kk else nmK (fun i => ch tl tb (k + i)) n kk) by first | rfl | exact (bI_t (by assumption)).symm | exact (bI_f (by assumption)).symm | exact (bI_f (fun z => z (by assumption))).symm | (rw [if_pos h26]; done) | (rw [if_pos h26]; rfl) | (simp only [if_pos h26]; done) | (simp only [if_pos h26]; rfl)) ?_
                            exact hJ25 _ _ _ (by first | exact hM | (simp only [if_pos h26]; exact hM)) (by first | exact lv_sub hl [0, 1, 2, 3, 4] rfl | (simp only [if_pos h26]; exact lv_sub hl [0, 1, 2, 3, 4] rfl))
                        intro H locs ls hM hl
                        refine topi_eq (show nI (if sm = true then kk else nmK (fun i => ch tl tb (k + i)) n kk) = nI (nmK (fun i => ch tl tb (k + i)) n (kk + 1)) from congrArg nI (nm_upd (i := i) (sm := sm) hi9 ht9 hf9 (by first | exact Or.inl (Bool.eq_false_iff.mpr (by assumption)) | exact Or.inr (by assumption)))) ?_
                        refine co_put hC in_Rd t_Rd t_Rd_ok n_Rd hK hM 3 (by omega) (cE_3) rfl 4 (by decide) wf_Rd_21 rfl rfl (ty := .int) (by decide +kernel) (x := nI (nmK (fun i => ch tl tb (k + i)) n (kk + 1))) rfl rfl (Nat.le_of_ble_eq_true rfl) (by decide) (rfl) d_Rd_readName_150 (fun H locs hM => ?_)
                        replace hM : CO D cT (CA X) X (upd (upd (upd (upd I 31 (nI (k + n))) 32 1) 34 (nI (nmK (fun i => ch tl tb (k + i)) n kk))) 34 (nI (nmK (fun i => ch tl tb (k + i)) n (kk + 1)))) a s.heap H locs := hM
                        rw [upd_upd] at hM
                        refine lv_iinc (v := nI (kk + 1)) (lv' := [(1, .int (nI (kk + 1))), (0, .ref (X.1 3)), (2, .ref (adK kk)), (3, .int (bI (sm = true))), (4, .int (nI i))]) hx hb d_Rd_readName_153 hl (k := 1) rfl (nI_add kk 1) (by decide) rfl (fun ls hl => ?_)
                        refine lv_goto (tgt := 53) hx hb d_Rd_readName_156 (by decide) ?_
                        exact ih53 (kk + 1) _ _ _ (by omega) (by omega) (hM) (lv_sub hl [1, 0] rfl)
                      · skip
                        have hs9 : sm = true := by assumption
                        have hck := cK_b kk i
                        have hcb_2 := cC_b htb (k + i)
                        refine lv_aload_n hx hb d_Rd_readName_102 rfl (lv_at hl 2 rfl) ?_
                        refine lv_iload hx hb d_Rd_readName_103 (lv_at hl 4 rfl) ?_
                        refine zs_callV (np := 1) hC hZ hM.2.2 hN (i := kk) (by omega) (c_St_charAt l adK adV N0 kk i (by omega) (by omega)) rfl ⟨wl_Rd_117, wi_St_charAt, ws_St_charAt, wc_St_charAt, wn_St⟩ ⟨by decide, by decide, by decide +kernel⟩ ⟨Nat.le_of_ble_eq_true rfl, Nat.le_of_ble_eq_true rfl⟩ hl.1 rfl (rest := []) rfl (Nat.le_of_ble_eq_true rfl) ⟨Nat.zero_le _, Nat.zero_le _⟩ d_Rd_readName_105 (fun rr hrr => ?_)
                        subst hrr
                        refine lv_aload_n hx hb d_Rd_readName_108 rfl (lv_at hl 0 rfl) ?_
                        refine rd_get hC in_Rd hK hM.1 3 (cw_he (by omega) (cE_3)) rfl 0 (by decide) wf_Rd_33 rfl (v := .ref (X.1 1)) (rfl) d_Rd_readName_109 ?_
                        refine lv_aload_n hx hb d_Rd_readName_112 rfl (lv_at hl 0 rfl) ?_
                        refine rd_get hC in_Rd hK hM.1 3 (cw_he (by omega) (cE_3)) rfl 3 (by decide) wf_Rd_18 rfl (v := .int (nI k)) (congrArg (fun z : Int32 => some (Value.int z)) ((pk_un (by omega)).trans ((pk_un (by omega)).trans ((pk_un (by omega)).trans (h33))))) d_Rd_readName_113 ?_
                        refine lv_iload hx hb d_Rd_readName_116 (lv_at hl 4 rfl) ?_
                        refine lv_iadd hx hb d_Rd_readName_118 ?_
                        refine topi_eq (nI_add k i) ?_
                        refine rd_call (np := 1) hC hK hM.1 (cw_he (by omega) (cE_1)) rfl (c_Tp_byteAt l D cT X (upd (upd (upd I 31 (nI (k + n))) 32 1) 34 (nI (nmK (fun i => ch tl tb (k + i)) n kk))) a (k + i) tl ((pk_un (by omega)).trans ((pk_un (by omega)).trans ((pk_un (by omega)).trans (hT.1)))) hT.2.1 (by omega)) rfl ⟨wl_Rd_92, wi_Tp_byteAt, ws_Tp_byteAt, wc_Tp_byteAt, wn_Tp⟩ ⟨by decide, by decide, by decide +kernel⟩ ⟨Nat.le_of_ble_eq_true rfl, Nat.le_of_ble_eq_true rfl⟩ hl.1 rfl (rest := [.int (nI (cK kk i))]) rfl (Nat.le_of_ble_eq_true rfl) ⟨Nat.zero_le _, Nat.zero_le _⟩ d_Rd_readName_119 (fun rr hrr => ?_)
                        replace hrr : rr = iI (cC tl tb (k + i)) := hrr.trans (bC_v (fun j hj => (hT.2.2 j hj).1))
                        subst hrr
                        have hJ27 : ∀ (H : Heap) (locs : List Loc) (ls : Array Slot), CO D cT (CA X) X (upd (upd (upd I 31 (nI (k + n))) 32 1) 34 (nI (nmK (fun i => ch tl tb (k + i)) n kk))) a s.heap H locs → lv_has ls 5 [(0, .ref (X.1 3)), (1, .int (nI kk)), (2, .ref (adK kk)), (3, .int (bI (sm = true))), (4, .int (nI i))] → W p l e (rmOf 4 100) s m args below meth c H locs 0 0 Q (F0 m 130 ls [.int (bI ((↑(cK kk i) : Int) = (cC tl tb (k + i))))]) := ?_
                        · skip
                          refine zc_ne hx hb (↑(cK kk i) : Int) (cC tl tb (k + i)) (by omega) (by omega) (by omega) (by omega) d_Rd_readName_122 (tgt := 129) (by decide) (fun h28 => ?_) (fun h28 => ?_)
                          · skip
                            refine lv_iconst (v := 0) hx hb d_Rd_readName_129 (by decide) ?_
                            refine topi_eq (show (0 : Int32) = bI ((↑(cK kk i) : Int) = (cC tl tb (k + i))) by first | rfl | exact (bI_t (by assumption)).symm | exact (bI_f (by assumption)).symm | exact (bI_f (fun z => z (by assumption))).symm | (rw [if_neg h28]; done) | (rw [if_neg h28]; rfl) | (simp only [if_neg h28]; done) | (simp only [if_neg h28]; rfl)) ?_
                            exact hJ27 _ _ _ (by first | exact hM | (simp only [if_neg h28]; exact hM)) (by first | exact lv_sub hl [0, 1, 2, 3, 4] rfl | (simp only [if_neg h28]; exact lv_sub hl [0, 1, 2, 3, 4] rfl))
                          · skip
                            refine lv_iconst (v := 1) hx hb d_Rd_readName_125 (by decide) ?_
                            refine lv_goto (tgt := 130) hx hb d_Rd_readName_126 (by decide) ?_
                            refine topi_eq (show (1 : Int32) = bI ((↑(cK kk i) : Int) = (cC tl tb (k + i))) by first | rfl | exact (bI_t (by assumption)).symm | exact (bI_f (by assumption)).symm | exact (bI_f (fun z => z (by assumption))).symm | (rw [if_pos h28]; done) | (rw [if_pos h28]; rfl) | (simp only [if_pos h28]; done) | (simp only [if_pos h28]; rfl)) ?_
                            exact hJ27 _ _ _ (by first | exact hM | (simp only [if_pos h28]; exact hM)) (by first | exact lv_sub hl [0, 1, 2, 3, 4] rfl | (simp only [if_pos h28]; exact lv_sub hl [0, 1, 2, 3, 4] rfl))
                        intro H locs ls hM hl
                        refine lv_istore_n (lv' := [(3, .int (bI ((↑(cK kk i) : Int) = (cC tl tb (k + i))))), (0, .ref (X.1 3)), (1, .int (nI kk)), (2, .ref (adK kk)), (4, .int (nI i))]) hx hb d_Rd_readName_130 rfl hl (by decide) rfl (fun ls hl => ?_)
                        refine lv_iinc (v := nI (i + 1)) (lv' := [(4, .int (nI (i + 1))), (3, .int (bI ((↑(cK kk i) : Int) = (cC tl tb (k + i))))), (0, .ref (X.1 3)), (1, .int (nI kk)), (2, .ref (adK kk))]) hx hb d_Rd_readName_131 hl (k := 4) rfl (nI_add i 1) (by decide) rfl (fun ls hl => ?_)
                        refine lv_goto (tgt := 89) hx hb d_Rd_readName_134 (by decide) ?_
                        exact ih89 (i + 1) (decide ((cK kk i : Int) = cC tl tb (k + i))) _ _ _ (by omega) (by omega) (fun z => ⟨(ht9 hs9).1, fun j hj => by by_cases e : j = i; (rw [e]; have z2 := of_decide_eq_true z; exact (cC_c (tl := tl) (tb := tb) (k := k + i) (c := cK kk i) (by have := cK_b kk i; omega)).mp z2.symm); exact (ht9 hs9).2 j (by omega)⟩) (fun z y => of_decide_eq_false z ((cC_c (tl := tl) (tb := tb) (k := k + i) (c := cK kk i) (by have := cK_b kk i; omega)).mpr (y.2 i (by omega))).symm) (hM) (by rw [show bI (decide ((cK kk i : Int) = cC tl tb (k + i)) = true) = bI ((↑(cK kk i) : Int) = (cC tl tb (k + i))) from bI_c (by rw [decide_eq_true_iff])]; exact lv_sub hl [2, 3, 4, 1, 0] rfl)
                exact hL89 _ 0 (decide (lK kk = n)) _ _ _ (Nat.lt_succ_self _) (Nat.zero_le _) (fun z => ⟨(of_decide_eq_true z).symm, fun j hj => by omega⟩) (fun z y => of_decide_eq_false z y.1.symm) (hM) (by rw [show bI (decide (lK kk = n) = true) = bI ((↑(lK kk) : Int) = ((↑(k + n) : Int) - (↑k : Int))) from bI_c (by rw [decide_eq_true_iff]; first | exact Iff.rfl | omega)]; exact lv_sub hl [2, 3, 4, 1, 0] rfl)
          exact hL53 _ 0 _ _ _ (Nat.lt_succ_self _) (by omega) (hM) (lv_sub hl [1, 0] rfl)
        · skip
          refine lv_aload_n hx hb d_Rd_readName_27 rfl (lv_at hl 0 rfl) ?_
          refine lv_dup hx hb d_Rd_readName_28 rfl ?_
          refine rd_get hC in_Rd hK hM.1 3 (cw_he (by omega) (cE_3)) rfl 1 (by decide) wf_Rd_9 rfl (v := .int (nI (k + n))) (congrArg (fun z : Int32 => some (Value.int z)) (pk_us)) d_Rd_readName_29 ?_
          refine lv_iconst (v := 1) hx hb d_Rd_readName_32 (by decide) ?_
          refine lv_iadd hx hb d_Rd_readName_33 ?_
          refine topi_eq (nI_add (k + n) 1) ?_
          refine co_put hC in_Rd t_Rd t_Rd_ok n_Rd hK hM 3 (by omega) (cE_3) rfl 1 (by decide) wf_Rd_9 rfl rfl (ty := .int) (by decide +kernel) (x := nI ((k + n) + 1)) rfl rfl (Nat.le_of_ble_eq_true rfl) (by decide) (rfl) d_Rd_readName_34 (fun H locs hM => ?_)
          replace hM : CO D cT (CA X) X (upd (upd I 31 (nI (k + n))) 31 (nI ((k + n) + 1))) a s.heap H locs := hM
          rw [upd_upd] at hM
          refine lv_goto (tgt := 0) hx hb d_Rd_readName_37 (by decide) ?_
          have hk1 := cC_tl (tl := tl) (tb := tb) (k := k + n) (by omega)
          exact ih0 (n + 1) _ _ _ (by omega) (by omega) (by rw [hlt2, ltC_y h15 (by omega)]; rfl) (hM) (lv_sub hl [0] rfl)
  exact hL0 _ 0 _ _ _ (Nat.lt_succ_self _) (by omega) (rfl) (by rw [upd_same2 (show I 31 = nI (k + 0) from h31)]; exact hM) (lv_sub hl [0] rfl)
