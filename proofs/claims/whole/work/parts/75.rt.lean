/-! the class: forms are made; a text is read -/
def XF (X : CX) (F : va_W) : CX := (X.1, X.2.1, X.2.2.1, X.2.2.2.1, F)
def cA (X : CX) (sz : Nat) : Nat → Prop := fun q => CA X q ∨ sz ≤ q
theorem cw_app {cT : Nat → ClassId} {X : CX} {I : Nat → Int32} {a : Nat → Nat → Int32} {F G : va_W} : cw cT (XF X F) I a ++ G = cw cT (XF X (F ++ G)) I a := by
  show ((List.range (18 + 3 * X.2.2.2.1)).map (fun k => (X.1 k, cE cT X I a k)) ++ F) ++ G = (List.range (18 + 3 * X.2.2.2.1)).map (fun k => (X.1 k, cE cT X I a k)) ++ (F ++ G)
  rw [List.append_assoc]
theorem cw_perm {cT : Nat → ClassId} {X : CX} {I : Nat → Int32} {a : Nat → Nat → Int32} {F G : va_W} (h : F.Perm G) : (cw cT (XF X F) I a).Perm (cw cT (XF X G) I a) := List.Perm.append_left _ h
theorem cw_last {cT : Nat → ClassId} {X : CX} {I : Nat → Int32} {a : Nat → Nat → Int32} {F : va_W} {x : Nat × va_E} : (cw cT (XF X (F ++ [x])) I a)[18 + 3 * X.2.2.2.1 + F.length]? = some x := by
  have h := cw_far (cT := cT) (X := XF X (F ++ [x])) (I := I) (a := a) F.length
  refine h.trans ?_
  show (F ++ [x])[F.length]? = some x
  rw [List.getElem?_append_right (Nat.le_refl _), Nat.sub_self]
  rfl
theorem cw_setL {cT : Nat → ClassId} {X : CX} {I : Nat → Int32} {a : Nat → Nat → Int32} {F : va_W} {x y : Nat × va_E} : (cw cT (XF X (F ++ [x])) I a).set (18 + 3 * X.2.2.2.1 + F.length) y = cw cT (XF X (F ++ [y])) I a := by
  rw [← cw_app, ← cw_app]
  have hl : (cw cT (XF X F) I a).length = 18 + 3 * X.2.2.2.1 + F.length := by
    show ((List.range (18 + 3 * X.2.2.2.1)).map (fun k => (X.1 k, cE cT X I a k)) ++ F).length = _
    rw [List.length_append, List.length_map, List.length_range]
  rw [List.set_append_right _ _ (by omega), hl, Nat.sub_self]
  rfl
def caB (D : va_G) (cT : Nat → ClassId) (X : CX) (a : Nat → Nat → Int32) (sz : Nat) (u : va_W × (Nat → Int32)) (t : State) : Prop := va_P D classes (cw cT (XF X u.1) u.2 a) t.heap ∧ va_D (cA X sz) (cw cT (XF X u.1) u.2 a)
def caPc (D : va_G) (cT : Nat → ClassId) (X : CX) (I : Nat → Int32) (a : Nat → Nat → Int32) (av : List Value) (sz : Nat) (adK adV : Nat → Nat) (N0 : Nat) : Array Value → State → Prop := va_Pc av (fun U => U.heap.size = sz ∧ va_P D classes (cw cT X I a) U.heap ∧ KE D cT U ∧ va_D (CA X) (cw cT X I a) ∧ SE adK adV N0 U)
theorem caPc_blind {D : va_G} {cT : Nat → ClassId} {X : CX} {I : Nat → Int32} {a : Nat → Nat → Int32} {av : List Value} {sz : Nat} {adK adV : Nat → Nat} {N0 : Nat} : FrameBlind (caPc D cT X I a av sz adK adV N0) := fun _ _ _ _ h => ⟨h.1, h.2.1, h.2.2.1, h.2.2.2.1.blind, h.2.2.2.2.1, h.2.2.2.2.2.blind⟩
/-- a method of the class that makes cells and hands back a reference or null -/
def CAq (l : Launch) (D : va_G) (cT : Nat → ClassId) (X : CX) (y : MethodName) (b : ByteArray) (n : Nat) (r : Option FieldType) (fr lo mc ms : Nat) (av : List Value) (I : Nat → Int32) (a : Nat → Nat → Int32) (sz : Nat) (adK adV : Nat → Nat) (N0 : Nat) (post : Option Nat → va_W × (Nat → Int32) → Prop) : Prop := Met l y (wm y b n r) (rmA fr lo mc ms) (caPc D cT X I a av sz adK adV N0) (va_Qq post (caB D cT X a sz) (cA X sz)) mc ms (cA X sz)
/-- a static method over one array that makes a cell -/
def FO (l : Launch) (D : va_G) (cT : Nat → ClassId) (y : MethodName) (b : ByteArray) (n : Nat) (r : Option FieldType) (fr lo mc ms : Nat) (av : List Value) (qn : Nat) (en : va_E) (sz : Nat) (post : Option Nat → va_W → Prop) : Prop := Met l y (wm y b n r) (rmA fr lo mc ms) (nPc D cT [(qn, en)] av sz) (va_Qq post (nB D (nA qn sz)) (nA qn sz)) mc ms (nA qn sz)
section RT
variable {p : Program} {l : Launch} {e : Env} {RM : Room} {s : State} {m : MethodId} {args : Array Value} {below : List Frame} {meth : Method} {c : Code} {H H0 : Heap} {locs : List Loc} {cells slots : Nat} {Q : State → Prop} {cc : ByteArray} {pc nL : Nat} {ls : Array Slot} {rest : List Value} {own : String}
variable {D : va_G} {cT : Nat → ClassId} {A : Nat → Prop} {X : CX} {I : Nat → Int32} {a : Nat → Nat → Int32} {w : va_W} {adK adV : Nat → Nat} {N0 : Nat}
theorem ca_entq {y : MethodName} {b : ByteArray} {n fr lo mc ms sz : Nat} {av : List Value} {post : Option Nat → va_W × (Nat → Int32) → Prop} {C : String} (hy : plainName y.cls = true) (ho : y.cls = own) (hlen : (lg_sl av).length ≤ n)
    (body : ∀ (p : Program) (e : Env) (s : State) (m : MethodId) (args : Array Value) (below : List Frame) (meth : Method) (c : Code) (Q : State → Prop), CallFix p m c b n s args GW own → KE D cT s → CO D cT (cA X sz) (XF X X.2.2.2.2) I a s.heap s.heap [] → SE adK adV N0 s → (∀ x, s.heap.size ≤ x → cA X sz x) → (∀ x, cA X sz x → CA X x ∨ N0 ≤ x) → (∀ (pc : Nat) (ls : Array Slot) (v : Value) (o : Option Nat) (F : va_W) (I : Nat → Int32) (H : Heap) (locs : List Loc) (cells slots : Nat), decode b pc = .ok (.areturn, 1) → va_rf o = v → CO D cT (cA X sz) (XF X F) I a s.heap H locs → cells ≤ mc → slots ≤ ms → post o (F, I) → W p l e (rmA fr lo mc ms) s m args below meth c H locs cells slots Q (F0 m pc ls [v])) → ∀ ls : Array Slot, lv_has ls n (lv_args 0 av) →
      W p l e (rmA fr lo mc ms) s m args below meth c s.heap [] 0 0 Q (F0 m 0 ls [])) : CAq l D cT X y b n (some (.object C)) fr lo mc ms av I a sz adK adV N0 post := by
  refine Met.ofW (cc := b) (maxL := n) (ret := some (.object C)) hy rfl ?_
  intro p e s m args below meth c s₁ B hml hv
  obtain ⟨hv, hsz, hP, hK, hD, hZ⟩ := hv
  subst hv
  subst hsz
  have hts := atoms_spec (ws := wm y b n (some (.object C))) B.pre
  rw [lg_entry_eq]
  exact body p e s m _ below meth c _ ⟨B.exec, B.bytes, hml, by rw [← ho]; exact findClass_of_methodNamed B.named, fun w h => hts w (List.mem_cons_of_mem _ h)⟩ hK ⟨hP, hD.weaken (fun _ _ _ h => Or.inl h), va_S.rf⟩ hZ (fun x hx => Or.inr hx) (fun x hx => hx.elim Or.inl (fun h => Or.inr (Nat.le_trans hZ.1 h))) (fun pc ls v o F I H locs cells slots hdg hv hM h1 h2 hp => by
    subst hv
    exact W.widen h1 h2 (W.aret B.exec B.bytes B.returns (Or.inl ⟨_, rfl⟩) (va_rf_or o) (fun t ht _ => ⟨⟨o, (F, I), rfl, hp, by rw [ht]; exact hM.1, hM.2.1⟩, hM.2.2.F ht⟩) hM.2.2.2.2 hdg)) _ (lv_entry _ hlen)
theorem ca_A1 (hM : CO D cT A X I a H0 H locs) (hAs : ∀ q, H0.size ≤ q → A q) : ∀ q, cA X H.size q → A q := fun q h => h.elim (ca_in hM q) (fun h => hAs q (Nat.le_trans hM.2.2.1 h))
theorem ca_callq {y : MethodName} {b : ByteArray} {n np index fr lo mc ms ci k : Nat} {r : Option FieldType} {av st fs : List Value} {vc : vw_C} {post : Option Nat → va_W × (Nat → Int32) → Prop} (hC : CallFix p m c cc nL s args GW own) (hK : KE D cT s) (hM : CO D cT A X I a s.heap H locs) (hZ : SE adK adV N0 s) (hA : ∀ q, A q → N0 ≤ q) (hAs : ∀ q, s.heap.size ≤ q → A q) (hk : k < 18 + 3 * X.2.2.2.1) (he : cE cT X I a k = .inr (ci, fs)) (hc : classes[ci]? = some vc) (hm : CAq l D cT X y b n r fr lo mc ms (.ref (X.1 k) :: av) I a H.size adK adV N0 post) (hy : y.cls = vc.1) (hw : Cond.methodLink own index y ∈ GW ∧ Cond.instanceMethod y ∈ GW ∧ Cond.selects y.cls y y ∈ GW ∧ Cond.code y b n r ∈ GW ∧ Cond.initialized y.cls ∈ GW) (hd : y.cls ≠ "java/lang/invoke/MethodHandle" ∧ y.cls ≠ "java/lang/invoke/VarHandle" ∧ (parseMethodDescriptor y.desc).map (fun d => d.parameters.length) = some np) (hR : fr + 1 ≤ RM.frames ∧ 8 + (n + 11) + lo ≤ RM.locals) (hsz : ls.size = nL) (hn : av.length = np) (hst : st = av.reverse ++ .ref (X.1 k) :: rest) (hcat : (rest.map fun v => v.category).sum ≤ 8) (hf : cells + mc ≤ RM.cells ∧ slots + ms ≤ RM.slots) (hdg : decode cc pc = .ok (.invokevirtual index, 3))
    (kk : ∀ (o : Option Nat) (F : va_W) (I' : Nat → Int32) (H1 : Heap) (locs1 : List Loc), post o (F, I') → CO D cT A (XF X F) I' a s.heap H1 locs1 → W p l e RM s m args below meth c H1 locs1 (cells + mc) (slots + ms) Q (F0 m (pc + 3) ls (va_rf o :: rest))) : W p l e RM s m args below meth c H locs cells slots Q (F0 m pc ls st) :=
  va_callq (va_runV (As := av) (rest := rest) hC hm ⟨callB_of np hC.2.2.2.2 (gm hw.2.2.2.1) rfl rfl rfl (hC.2.2.2.2 _ hw.2.2.2.2) (hC.2.2.2.2 _ hw.1) hd hR, hC.2.2.2.2 _ hw.2.1, hC.2.2.2.2 _ hw.2.2.1⟩ ⟨caPc_blind, by rw [hy]; exact va_recv hK.1 hM.1 hc (cw_he hk he), fun U hU hW => ⟨rfl, by rw [hU], by rw [hU]; exact hM.1, hK.moved hW, co_self hM, hZ.to hU hW hM.2.2 hA⟩⟩ rfl hn hsz hst (lv_room hcat) hdg hf) hM.2.2 (fun q _ h => ca_A1 hM hAs q h) (ca_A1 hM hAs) (fun o u t H1 locs1 ht hvm hp hB hz hk2 hS => kk o u.1 u.2 H1 locs1 hp ⟨by rw [← ht]; exact hB.1, hB.2.weaken (fun _ q _ h => ca_A1 hM hAs q.1 h), hS⟩)
theorem fo_ent {y : MethodName} {b : ByteArray} {n fr lo mc ms sz qn : Nat} {en : va_E} {av : List Value} {post : Option Nat → va_W → Prop} {C : String} (hy : plainName y.cls = true) (ho : y.cls = own) (hlen : (lg_sl av).length ≤ n)
    (body : ∀ (p : Program) (e : Env) (s : State) (m : MethodId) (args : Array Value) (below : List Frame) (meth : Method) (c : Code) (Q : State → Prop), CallFix p m c b n s args GW own → KE D cT s → (∀ x, s.heap.size ≤ x → nA qn sz x) → NM D (nA qn sz) [(qn, en)] s.heap s.heap [] → (∀ (pc : Nat) (ls : Array Slot) (q : Nat) (w : va_W) (H : Heap) (locs : List Loc), decode b pc = .ok (.areturn, 1) → NM D (nA qn sz) w s.heap H locs → post (some q) w → W p l e (rmA fr lo mc ms) s m args below meth c H locs mc ms Q (F0 m pc ls [.ref q])) → ∀ ls : Array Slot, lv_has ls n (lv_args 0 av) →
      W p l e (rmA fr lo mc ms) s m args below meth c s.heap [] 0 0 Q (F0 m 0 ls [])) : FO l D cT y b n (some (.object C)) fr lo mc ms av qn en sz post := by
  refine Met.ofW (cc := b) (maxL := n) (ret := some (.object C)) hy rfl ?_
  intro p e s m args below meth c s₁ B hml hv
  obtain ⟨hv, hsz, hP, hK⟩ := hv
  subst hv
  subst hsz
  have hts := atoms_spec (ws := wm y b n (some (.object C))) B.pre
  have hD : va_D (nA qn s.heap.size) [(qn, en)] := vaD_mem.mpr ⟨List.nodup_cons.mpr ⟨List.not_mem_nil, List.nodup_nil⟩, fun x hx => by
    cases List.mem_singleton.mp hx
    exact Or.inl rfl⟩
  rw [lg_entry_eq]
  exact body p e s m _ below meth c _ ⟨B.exec, B.bytes, hml, by rw [← ho]; exact findClass_of_methodNamed B.named, fun w h => hts w (List.mem_cons_of_mem _ h)⟩ hK (fun x hx => Or.inr hx) ⟨hP, hD, va_S.rf⟩ (fun pc ls q w H locs hdg hM hp => W.aret B.exec B.bytes B.returns (Or.inl ⟨_, rfl⟩) (Or.inr ⟨q, rfl⟩) (fun t ht _ => ⟨⟨some q, w, rfl, hp, by rw [ht]; exact hM.1, hM.2.1⟩, hM.2.2.F ht⟩) hM.2.2.2.2 hdg) _ (lv_entry _ hlen)
theorem fo_form {y : MethodName} {b : ByteArray} {n np index fr lo mc ms qn : Nat} {en : va_E} {r : Option FieldType} {av st : List Value} {F : va_W} {post : Option Nat → va_W → Prop} (hC : CallFix p m c cc nL s args GW own) (hK : KE D cT s) (hM : CO D cT A (XF X (F ++ [(qn, en)])) I a s.heap H locs) (hAs : ∀ q, s.heap.size ≤ q → A q) (hm : FO l D cT y b n r fr lo mc ms av qn en H.size post) (hw : Cond.methodLink own index y ∈ GW ∧ Cond.static y ∈ GW ∧ Cond.code y b n r ∈ GW ∧ Cond.initialized y.cls ∈ GW) (hd : y.cls ≠ "java/lang/invoke/MethodHandle" ∧ y.cls ≠ "java/lang/invoke/VarHandle" ∧ (parseMethodDescriptor y.desc).map (fun d => d.parameters.length) = some np) (hR : fr + 1 ≤ RM.frames ∧ 8 + (n + 11) + lo ≤ RM.locals) (hsz : ls.size = nL) (hn : av.length = np) (hst : st = av.reverse ++ rest) (hcat : (rest.map fun v => v.category).sum ≤ 8) (hf : cells + mc ≤ RM.cells ∧ slots + ms ≤ RM.slots) (hdg : decode cc pc = .ok (.invokestatic index, 3))
    (kk : ∀ (o : Option Nat) (w1 : va_W) (H1 : Heap) (locs1 : List Loc), post o w1 → CO D cT A (XF X (F ++ w1)) I a s.heap H1 locs1 → W p l e RM s m args below meth c H1 locs1 (cells + mc) (slots + ms) Q (F0 m (pc + 3) ls (va_rf o :: rest))) : W p l e RM s m args below meth c H locs cells slots Q (F0 m pc ls st) := by
  have hN : NM D A (cw cT (XF X F) I a ++ [(qn, en)]) s.heap H locs := by rw [cw_app]; exact hM
  refine va_callq (va_runS (As := av) (rest := rest) hC hm ⟨callB_of np hC.2.2.2.2 (gm hw.2.2.1) rfl rfl rfl (hC.2.2.2.2 _ hw.2.2.2) (hC.2.2.2.2 _ hw.1) hd hR, hC.2.2.2.2 _ hw.2.1⟩ ⟨nPc_blind, fun U hU hW => ⟨rfl, by rw [hU], by rw [hU]; exact nm_sub1 hN, hK.moved hW⟩⟩ rfl hn hsz hst (lv_room hcat) hdg hf) hM.2.2 (fun x _ hx => nm_A1 hN hAs x hx) (nm_A1 hN hAs) (fun o u t H1 locs1 ht hvm hp hB hz hk hS => kk o u H1 locs1 hp ?_)
  have hJ := NM_join hN hk (fun x hx => hx.elim (fun h => Or.inl ⟨en, by rw [h]; exact List.mem_cons_self⟩) Or.inr) (nm_A1 hN hAs) (by rw [← ht]; exact hB.1) hB.2 hS
  rw [cw_app] at hJ
  exact hJ
end RT

set_option maxHeartbeats 1000000 in
set_option maxRecDepth 100000 in
theorem c_Rd_formOf_0 (l : Launch) (D : va_G) (cT : Nat → ClassId) (sz qn : Nat) (f : Nat → Int32) : FO l D cT y_Rd_formOf b_Rd_formOf 4 (some (.object "SignSolids$Form")) 3 70 1 4 [.int (nI 0), .ref qn, .null, .null] qn (.inl (cT 0, 6, .inl f)) sz (fun o w => ∃ q, o = some q ∧ w = [(qn, .inl (cT 0, 6, .inl f)), (q, .inr (0, [.int (f 0), .int (f 1), .int (f 2), .int (f 3)]))]) := by
  refine fo_ent (own := R_Rd) (by decide) rfl (Nat.le_of_ble_eq_true rfl) ?_
  intro p e s m args below meth c Q hC hK hA hM hret ls hl
  have hx := hC.1
  have hb := hC.2.1
  replace hl : lv_has ls 4 [(0, .int (nI 0)), (1, .ref qn), (2, .null), (3, .null)] := hl
  refine lv_iload_n hx hb d_Rd_formOf_0 rfl (lv_at hl 0 rfl) ?_
  refine lv_tableIn (tgt := 40) hx hb d_Rd_formOf_1 (by decide) (by decide) rfl (by decide) ?_
  refine nm_new (w := [(qn, .inl (cT 0, 6, .inl f))]) (ci := 0) (fs := [.int 0, .int 0, .int 0, .int 0]) hC in_Ba t_Ba t_Ba_ok wk_Rd_67 wz_Ba wn_Ba hK hM hA rfl (fun j hj => by rcases (show j = 0 ∨ j = 1 ∨ j = 2 ∨ j = 3 by omega) with rfl | rfl | rfl | rfl <;> rfl) (Nat.le_of_ble_eq_true rfl) (Nat.le_of_ble_eq_true rfl) d_Rd_formOf_40 (fun q H hM => ?_)
  replace hM : NM D (nA qn sz) [(qn, .inl (cT 0, 6, .inl f)), (q, .inr (0, [.int 0, .int 0, .int 0, .int 0]))] s.heap H [] := hM
  refine lv_dup hx hb d_Rd_formOf_43 rfl ?_
  refine lv_aload_n hx hb d_Rd_formOf_44 rfl (lv_at hl 1 rfl) ?_
  refine lv_iconst (v := 0) hx hb d_Rd_formOf_45 (by decide) ?_
  refine rd_iald hC hK hM.1 0 rfl 0 (i := 0) rfl (by decide) (by decide) (v := f 0) rfl d_Rd_formOf_46 ?_
  refine lv_aload_n hx hb d_Rd_formOf_47 rfl (lv_at hl 1 rfl) ?_
  refine lv_iconst (v := 1) hx hb d_Rd_formOf_48 (by decide) ?_
  refine rd_iald hC hK hM.1 0 rfl 1 (i := 1) rfl (by decide) (by decide) (v := f 1) rfl d_Rd_formOf_49 ?_
  refine lv_aload_n hx hb d_Rd_formOf_50 rfl (lv_at hl 1 rfl) ?_
  refine lv_iconst (v := 2) hx hb d_Rd_formOf_51 (by decide) ?_
  refine rd_iald hC hK hM.1 0 rfl 2 (i := 2) rfl (by decide) (by decide) (v := f 2) rfl d_Rd_formOf_52 ?_
  refine lv_aload_n hx hb d_Rd_formOf_53 rfl (lv_at hl 1 rfl) ?_
  refine lv_iconst (v := 3) hx hb d_Rd_formOf_54 (by decide) ?_
  refine rd_iald hC hK hM.1 0 rfl 3 (i := 3) rfl (by decide) (by decide) (v := f 3) rfl d_Rd_formOf_55 ?_
  refine nm_init (np := 4) (w := [(qn, .inl (cT 0, 6, .inl f))]) (rest := [.ref q]) hC hK hM hA (c_Ba_init l D cT q H.size (f 0) (f 1) (f 2) (f 3)) ⟨wl_Rd_69, wi_Ba_init, wc_Ba_init, wn_Ba⟩ rfl ⟨by decide, by decide, by decide +kernel⟩ ⟨Nat.le_of_ble_eq_true rfl, Nat.le_of_ble_eq_true rfl⟩ hl.1 rfl rfl (Nat.le_of_ble_eq_true rfl) ⟨Nat.le_of_ble_eq_true rfl, Nat.le_of_ble_eq_true rfl⟩ d_Rd_formOf_56 (fun w1 H locs hp hM => ?_)
  cases hp
  exact hret _ _ _ _ _ _ d_Rd_formOf_59 hM ⟨q, rfl, rfl⟩
set_option maxHeartbeats 1000000 in
set_option maxRecDepth 100000 in
theorem c_Rd_formOf_1 (l : Launch) (D : va_G) (cT : Nat → ClassId) (sz qn : Nat) (f : Nat → Int32) : FO l D cT y_Rd_formOf b_Rd_formOf 4 (some (.object "SignSolids$Form")) 3 70 1 6 [.int (nI 1), .ref qn, .null, .null] qn (.inl (cT 0, 6, .inl f)) sz (fun o w => ∃ q, o = some q ∧ w = [(qn, .inl (cT 0, 6, .inl f)), (q, .inr (2, [.int (f 0), .int (f 1), .int (f 2), .int (f 3), .int (f 4), .int (f 5)]))]) := by
  refine fo_ent (own := R_Rd) (by decide) rfl (Nat.le_of_ble_eq_true rfl) ?_
  intro p e s m args below meth c Q hC hK hA hM hret ls hl
  have hx := hC.1
  have hb := hC.2.1
  replace hl : lv_has ls 4 [(0, .int (nI 1)), (1, .ref qn), (2, .null), (3, .null)] := hl
  refine lv_iload_n hx hb d_Rd_formOf_0 rfl (lv_at hl 0 rfl) ?_
  refine lv_tableIn (tgt := 60) hx hb d_Rd_formOf_1 (by decide) (by decide) rfl (by decide) ?_
  refine nm_new (w := [(qn, .inl (cT 0, 6, .inl f))]) (ci := 2) (fs := [.int 0, .int 0, .int 0, .int 0, .int 0, .int 0]) hC in_Bx t_Bx t_Bx_ok wk_Rd_72 wz_Bx wn_Bx hK hM hA rfl (fun j hj => by rcases (show j = 0 ∨ j = 1 ∨ j = 2 ∨ j = 3 ∨ j = 4 ∨ j = 5 by omega) with rfl | rfl | rfl | rfl | rfl | rfl <;> rfl) (Nat.le_of_ble_eq_true rfl) (Nat.le_of_ble_eq_true rfl) d_Rd_formOf_60 (fun q H hM => ?_)
  replace hM : NM D (nA qn sz) [(qn, .inl (cT 0, 6, .inl f)), (q, .inr (2, [.int 0, .int 0, .int 0, .int 0, .int 0, .int 0]))] s.heap H [] := hM
  refine lv_dup hx hb d_Rd_formOf_63 rfl ?_
  refine lv_aload_n hx hb d_Rd_formOf_64 rfl (lv_at hl 1 rfl) ?_
  refine lv_iconst (v := 0) hx hb d_Rd_formOf_65 (by decide) ?_
  refine rd_iald hC hK hM.1 0 rfl 0 (i := 0) rfl (by decide) (by decide) (v := f 0) rfl d_Rd_formOf_66 ?_
  refine lv_aload_n hx hb d_Rd_formOf_67 rfl (lv_at hl 1 rfl) ?_
  refine lv_iconst (v := 1) hx hb d_Rd_formOf_68 (by decide) ?_
  refine rd_iald hC hK hM.1 0 rfl 1 (i := 1) rfl (by decide) (by decide) (v := f 1) rfl d_Rd_formOf_69 ?_
  refine lv_aload_n hx hb d_Rd_formOf_70 rfl (lv_at hl 1 rfl) ?_
  refine lv_iconst (v := 2) hx hb d_Rd_formOf_71 (by decide) ?_
  refine rd_iald hC hK hM.1 0 rfl 2 (i := 2) rfl (by decide) (by decide) (v := f 2) rfl d_Rd_formOf_72 ?_
  refine lv_aload_n hx hb d_Rd_formOf_73 rfl (lv_at hl 1 rfl) ?_
  refine lv_iconst (v := 3) hx hb d_Rd_formOf_74 (by decide) ?_
  refine rd_iald hC hK hM.1 0 rfl 3 (i := 3) rfl (by decide) (by decide) (v := f 3) rfl d_Rd_formOf_75 ?_
  refine lv_aload_n hx hb d_Rd_formOf_76 rfl (lv_at hl 1 rfl) ?_
  refine lv_iconst (v := 4) hx hb d_Rd_formOf_77 (by decide) ?_
  refine rd_iald hC hK hM.1 0 rfl 4 (i := 4) rfl (by decide) (by decide) (v := f 4) rfl d_Rd_formOf_78 ?_
  refine lv_aload_n hx hb d_Rd_formOf_79 rfl (lv_at hl 1 rfl) ?_
  refine lv_iconst (v := 5) hx hb d_Rd_formOf_80 (by decide) ?_
  refine rd_iald hC hK hM.1 0 rfl 5 (i := 5) rfl (by decide) (by decide) (v := f 5) rfl d_Rd_formOf_81 ?_
  refine nm_init (np := 6) (w := [(qn, .inl (cT 0, 6, .inl f))]) (rest := [.ref q]) hC hK hM hA (c_Bx_init l D cT q H.size (f 0) (f 1) (f 2) (f 3) (f 4) (f 5)) ⟨wl_Rd_74, wi_Bx_init, wc_Bx_init, wn_Bx⟩ rfl ⟨by decide, by decide, by decide +kernel⟩ ⟨Nat.le_of_ble_eq_true rfl, Nat.le_of_ble_eq_true rfl⟩ hl.1 rfl rfl (Nat.le_of_ble_eq_true rfl) ⟨Nat.le_of_ble_eq_true rfl, Nat.le_of_ble_eq_true rfl⟩ d_Rd_formOf_82 (fun w1 H locs hp hM => ?_)
  cases hp
  exact hret _ _ _ _ _ _ d_Rd_formOf_85 hM ⟨q, rfl, rfl⟩
set_option maxHeartbeats 1000000 in
set_option maxRecDepth 100000 in
theorem c_Rd_formOf_2 (l : Launch) (D : va_G) (cT : Nat → ClassId) (sz qn : Nat) (f : Nat → Int32) : FO l D cT y_Rd_formOf b_Rd_formOf 4 (some (.object "SignSolids$Form")) 3 70 1 4 [.int (nI 2), .ref qn, .null, .null] qn (.inl (cT 0, 6, .inl f)) sz (fun o w => ∃ q, o = some q ∧ w = [(qn, .inl (cT 0, 6, .inl f)), (q, .inr (7, [.int (f 0), .int (f 1), .int (f 2), .int (f 3)]))]) := by
  refine fo_ent (own := R_Rd) (by decide) rfl (Nat.le_of_ble_eq_true rfl) ?_
  intro p e s m args below meth c Q hC hK hA hM hret ls hl
  have hx := hC.1
  have hb := hC.2.1
  replace hl : lv_has ls 4 [(0, .int (nI 2)), (1, .ref qn), (2, .null), (3, .null)] := hl
  refine lv_iload_n hx hb d_Rd_formOf_0 rfl (lv_at hl 0 rfl) ?_
  refine lv_tableIn (tgt := 86) hx hb d_Rd_formOf_1 (by decide) (by decide) rfl (by decide) ?_
  refine nm_new (w := [(qn, .inl (cT 0, 6, .inl f))]) (ci := 7) (fs := [.int 0, .int 0, .int 0, .int 0]) hC in_Pn t_Pn t_Pn_ok wk_Rd_77 wz_Pn wn_Pn hK hM hA rfl (fun j hj => by rcases (show j = 0 ∨ j = 1 ∨ j = 2 ∨ j = 3 by omega) with rfl | rfl | rfl | rfl <;> rfl) (Nat.le_of_ble_eq_true rfl) (Nat.le_of_ble_eq_true rfl) d_Rd_formOf_86 (fun q H hM => ?_)
  replace hM : NM D (nA qn sz) [(qn, .inl (cT 0, 6, .inl f)), (q, .inr (7, [.int 0, .int 0, .int 0, .int 0]))] s.heap H [] := hM
  refine lv_dup hx hb d_Rd_formOf_89 rfl ?_
  refine lv_aload_n hx hb d_Rd_formOf_90 rfl (lv_at hl 1 rfl) ?_
  refine lv_iconst (v := 0) hx hb d_Rd_formOf_91 (by decide) ?_
  refine rd_iald hC hK hM.1 0 rfl 0 (i := 0) rfl (by decide) (by decide) (v := f 0) rfl d_Rd_formOf_92 ?_
  refine lv_aload_n hx hb d_Rd_formOf_93 rfl (lv_at hl 1 rfl) ?_
  refine lv_iconst (v := 1) hx hb d_Rd_formOf_94 (by decide) ?_
  refine rd_iald hC hK hM.1 0 rfl 1 (i := 1) rfl (by decide) (by decide) (v := f 1) rfl d_Rd_formOf_95 ?_
  refine lv_aload_n hx hb d_Rd_formOf_96 rfl (lv_at hl 1 rfl) ?_
  refine lv_iconst (v := 2) hx hb d_Rd_formOf_97 (by decide) ?_
  refine rd_iald hC hK hM.1 0 rfl 2 (i := 2) rfl (by decide) (by decide) (v := f 2) rfl d_Rd_formOf_98 ?_
  refine lv_aload_n hx hb d_Rd_formOf_99 rfl (lv_at hl 1 rfl) ?_
  refine lv_iconst (v := 3) hx hb d_Rd_formOf_100 (by decide) ?_
  refine rd_iald hC hK hM.1 0 rfl 3 (i := 3) rfl (by decide) (by decide) (v := f 3) rfl d_Rd_formOf_101 ?_
  refine nm_init (np := 4) (w := [(qn, .inl (cT 0, 6, .inl f))]) (rest := [.ref q]) hC hK hM hA (c_Pn_init l D cT q H.size (f 0) (f 1) (f 2) (f 3)) ⟨wl_Rd_79, wi_Pn_init, wc_Pn_init, wn_Pn⟩ rfl ⟨by decide, by decide, by decide +kernel⟩ ⟨Nat.le_of_ble_eq_true rfl, Nat.le_of_ble_eq_true rfl⟩ hl.1 rfl rfl (Nat.le_of_ble_eq_true rfl) ⟨Nat.le_of_ble_eq_true rfl, Nat.le_of_ble_eq_true rfl⟩ d_Rd_formOf_102 (fun w1 H locs hp hM => ?_)
  cases hp
  exact hret _ _ _ _ _ _ d_Rd_formOf_105 hM ⟨q, rfl, rfl⟩
set_option maxHeartbeats 1000000 in
set_option maxRecDepth 100000 in
theorem c_Rd_formOf_p (l : Launch) (D : va_G) (cT : Nat → ClassId) (sz qn : Nat) (f : Nat → Int32) (k r1 r2 : Nat) (hk : 3 ≤ k ∧ k ≤ 5) : FO l D cT y_Rd_formOf b_Rd_formOf 4 (some (.object "SignSolids$Form")) 3 70 1 3 [.int (nI k), .ref qn, .ref r1, .ref r2] qn (.inl (cT 0, 6, .inl f)) sz (fun o w => ∃ q, o = some q ∧ w = [(qn, .inl (cT 0, 6, .inl f)), (q, .inr (5, [.int (nI k), .ref r1, .ref r2]))]) := by
  refine fo_ent (own := R_Rd) (by decide) rfl (Nat.le_of_ble_eq_true rfl) ?_
  intro p e s m args below meth c Q hC hK hA hM hret ls hl
  have hx := hC.1
  have hb := hC.2.1
  replace hl : lv_has ls 4 [(0, .int (nI k)), (1, .ref qn), (2, .ref r1), (3, .ref r2)] := hl
  refine lv_iload_n hx hb d_Rd_formOf_0 rfl (lv_at hl 0 rfl) ?_
  have hsw : W p l e (rmA 3 70 1 3) s m args below meth c s.heap [] 0 0 Q (F0 m 106 ls []) → W p l e (rmA 3 70 1 3) s m args below meth c s.heap [] 0 0 Q (F0 m 1 ls [.int (nI k)]) := by
    intro h9
    rcases (show k = 3 ∨ k = 4 ∨ k = 5 by omega) with rfl | rfl | rfl
    · exact lv_tableIn (tgt := 106) hx hb d_Rd_formOf_1 (by decide) (by decide) rfl (by decide) h9
    · exact lv_tableIn (tgt := 106) hx hb d_Rd_formOf_1 (by decide) (by decide) rfl (by decide) h9
    · exact lv_tableIn (tgt := 106) hx hb d_Rd_formOf_1 (by decide) (by decide) rfl (by decide) h9
  refine hsw ?_
  refine lv_aload_n hx hb d_Rd_formOf_106 rfl (lv_at hl 2 rfl) ?_
  refine lv_ifnull hx hb d_Rd_formOf_107 ?_
  refine lv_aload_n hx hb d_Rd_formOf_110 rfl (lv_at hl 3 rfl) ?_
  refine lv_ifnonnull (tgt := 118) hx hb d_Rd_formOf_111 (by decide) ?_
  refine nm_new (w := [(qn, .inl (cT 0, 6, .inl f))]) (ci := 5) (fs := [.int 0, .null, .null]) hC in_Pa t_Pa t_Pa_ok wk_Rd_80 wz_Pa wn_Pa hK hM hA rfl (fun j hj => by rcases (show j = 0 ∨ j = 1 ∨ j = 2 by omega) with rfl | rfl | rfl <;> rfl) (Nat.le_of_ble_eq_true rfl) (Nat.le_of_ble_eq_true rfl) d_Rd_formOf_118 (fun q H hM => ?_)
  replace hM : NM D (nA qn sz) [(qn, .inl (cT 0, 6, .inl f)), (q, .inr (5, [.int 0, .null, .null]))] s.heap H [] := hM
  refine lv_dup hx hb d_Rd_formOf_121 rfl ?_
  refine lv_iload_n hx hb d_Rd_formOf_122 rfl (lv_at hl 0 rfl) ?_
  refine lv_aload_n hx hb d_Rd_formOf_123 rfl (lv_at hl 2 rfl) ?_
  refine lv_aload_n hx hb d_Rd_formOf_124 rfl (lv_at hl 3 rfl) ?_
  refine nm_init (np := 3) (w := [(qn, .inl (cT 0, 6, .inl f))]) (rest := [.ref q]) hC hK hM hA (c_Pa_init l D cT q H.size (nI k) r1 r2) ⟨wl_Rd_82, wi_Pa_init, wc_Pa_init, wn_Pa⟩ rfl ⟨by decide, by decide, by decide +kernel⟩ ⟨Nat.le_of_ble_eq_true rfl, Nat.le_of_ble_eq_true rfl⟩ hl.1 rfl rfl (Nat.le_of_ble_eq_true rfl) ⟨Nat.le_of_ble_eq_true rfl, Nat.le_of_ble_eq_true rfl⟩ d_Rd_formOf_125 (fun w1 H locs hp hM => ?_)
  cases hp
  exact hret _ _ _ _ _ _ d_Rd_formOf_128 hM ⟨q, rfl, rfl⟩
set_option maxHeartbeats 1000000 in
set_option maxRecDepth 100000 in
theorem c_Rd_formOf_l (l : Launch) (D : va_G) (cT : Nat → ClassId) (sz qn : Nat) (f : Nat → Int32) (k r1 : Nat) (hk : 6 ≤ k ∧ k ≤ 9) : FO l D cT y_Rd_formOf b_Rd_formOf 4 (some (.object "SignSolids$Form")) 3 70 1 5 [.int (nI k), .ref qn, .ref r1, .null] qn (.inl (cT 0, 6, .inl f)) sz (fun o w => ∃ q, o = some q ∧ w = [(qn, .inl (cT 0, 6, .inl f)), (q, .inr (6, [.int (nI k), .int (f 0), .int (f 1), .int (f 2), .ref r1]))]) := by
  refine fo_ent (own := R_Rd) (by decide) rfl (Nat.le_of_ble_eq_true rfl) ?_
  intro p e s m args below meth c Q hC hK hA hM hret ls hl
  have hx := hC.1
  have hb := hC.2.1
  replace hl : lv_has ls 4 [(0, .int (nI k)), (1, .ref qn), (2, .ref r1), (3, .null)] := hl
  refine lv_iload_n hx hb d_Rd_formOf_0 rfl (lv_at hl 0 rfl) ?_
  have hsw : W p l e (rmA 3 70 1 5) s m args below meth c s.heap [] 0 0 Q (F0 m 129 ls []) → W p l e (rmA 3 70 1 5) s m args below meth c s.heap [] 0 0 Q (F0 m 1 ls [.int (nI k)]) := by
    intro h9
    rcases (show k = 6 ∨ k = 7 ∨ k = 8 ∨ k = 9 by omega) with rfl | rfl | rfl | rfl
    · exact lv_tableOut (tgt := 129) hx hb d_Rd_formOf_1 (by decide) (by decide) h9
    · exact lv_tableOut (tgt := 129) hx hb d_Rd_formOf_1 (by decide) (by decide) h9
    · exact lv_tableOut (tgt := 129) hx hb d_Rd_formOf_1 (by decide) (by decide) h9
    · exact lv_tableOut (tgt := 129) hx hb d_Rd_formOf_1 (by decide) (by decide) h9
  refine hsw ?_
  refine lv_aload_n hx hb d_Rd_formOf_129 rfl (lv_at hl 2 rfl) ?_
  refine lv_ifnonnull (tgt := 137) hx hb d_Rd_formOf_130 (by decide) ?_
  refine nm_new (w := [(qn, .inl (cT 0, 6, .inl f))]) (ci := 6) (fs := [.int 0, .int 0, .int 0, .int 0, .null]) hC in_Pl t_Pl t_Pl_ok wk_Rd_85 wz_Pl wn_Pl hK hM hA rfl (fun j hj => by rcases (show j = 0 ∨ j = 1 ∨ j = 2 ∨ j = 3 ∨ j = 4 by omega) with rfl | rfl | rfl | rfl | rfl <;> rfl) (Nat.le_of_ble_eq_true rfl) (Nat.le_of_ble_eq_true rfl) d_Rd_formOf_137 (fun q H hM => ?_)
  replace hM : NM D (nA qn sz) [(qn, .inl (cT 0, 6, .inl f)), (q, .inr (6, [.int 0, .int 0, .int 0, .int 0, .null]))] s.heap H [] := hM
  refine lv_dup hx hb d_Rd_formOf_140 rfl ?_
  refine lv_iload_n hx hb d_Rd_formOf_141 rfl (lv_at hl 0 rfl) ?_
  refine lv_aload_n hx hb d_Rd_formOf_142 rfl (lv_at hl 1 rfl) ?_
  refine lv_iconst (v := 0) hx hb d_Rd_formOf_143 (by decide) ?_
  refine rd_iald hC hK hM.1 0 rfl 0 (i := 0) rfl (by decide) (by decide) (v := f 0) rfl d_Rd_formOf_144 ?_
  refine lv_aload_n hx hb d_Rd_formOf_145 rfl (lv_at hl 1 rfl) ?_
  refine lv_iconst (v := 1) hx hb d_Rd_formOf_146 (by decide) ?_
  refine rd_iald hC hK hM.1 0 rfl 1 (i := 1) rfl (by decide) (by decide) (v := f 1) rfl d_Rd_formOf_147 ?_
  refine lv_aload_n hx hb d_Rd_formOf_148 rfl (lv_at hl 1 rfl) ?_
  refine lv_iconst (v := 2) hx hb d_Rd_formOf_149 (by decide) ?_
  refine rd_iald hC hK hM.1 0 rfl 2 (i := 2) rfl (by decide) (by decide) (v := f 2) rfl d_Rd_formOf_150 ?_
  refine lv_aload_n hx hb d_Rd_formOf_151 rfl (lv_at hl 2 rfl) ?_
  refine nm_init (np := 5) (w := [(qn, .inl (cT 0, 6, .inl f))]) (rest := [.ref q]) hC hK hM hA (c_Pl_init l D cT q H.size (nI k) (f 0) (f 1) (f 2) r1) ⟨wl_Rd_87, wi_Pl_init, wc_Pl_init, wn_Pl⟩ rfl ⟨by decide, by decide, by decide +kernel⟩ ⟨Nat.le_of_ble_eq_true rfl, Nat.le_of_ble_eq_true rfl⟩ hl.1 rfl rfl (Nat.le_of_ble_eq_true rfl) ⟨Nat.le_of_ble_eq_true rfl, Nat.le_of_ble_eq_true rfl⟩ d_Rd_formOf_152 (fun w1 H locs hp hM => ?_)
  cases hp
  exact hret _ _ _ _ _ _ d_Rd_formOf_155 hM ⟨q, rfl, rfl⟩
