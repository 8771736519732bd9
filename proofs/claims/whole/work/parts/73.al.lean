/-! cells that are made: worlds as lists -/
theorem wc_Ob_init : Cond.code objectInit ⟨#[0xb1]⟩ 1 none ∈ GW := gw_mem (i := 67) (by decide +kernel) (by decide +kernel)
def rmA (fr lo mc ms : Nat) : Room := { frames := fr, cells := mc, slots := ms, locals := lo }
def NM (D : va_G) (A : Nat → Prop) (w : va_W) (H0 H : Heap) (locs : List Loc) : Prop := va_P D classes w H ∧ va_D A w ∧ va_S A H0 H locs
theorem NM_sub {D : va_G} {A : Nat → Prop} {w w' : va_W} {H0 H : Heap} {locs : List Loc} (h : NM D A w H0 H locs) (is : List Nat) (hn : va_nd is = true) (hs : is.map (fun i => w[i]?) = w'.map some) : NM D A w' H0 H locs := by
  refine ⟨fun k q hk => ?_, h.2.1.sub is hn hs, h.2.2⟩
  have h1 : (is.map (fun i => w[i]?))[k]? = some (some q) := by rw [hs, List.getElem?_map, hk]; rfl
  rw [List.getElem?_map] at h1
  cases hi : is[k]? with
  | none => rw [hi] at h1; cases h1
  | some i => rw [hi] at h1; exact h.1 i q (Option.some.inj h1)
theorem vaP_mem {D : va_G} {w : va_W} {H : Heap} : va_P D classes w H ↔ ∀ q ∈ w, va_at D classes q H := by
  constructor
  · intro h q hq
    obtain ⟨k, hk⟩ := List.getElem?_of_mem hq
    exact h k q hk
  · intro h k q hk
    exact h q (List.mem_of_getElem? hk)
theorem vaD_mem {A : Nat → Prop} {w : va_W} : va_D A w ↔ (w.map Prod.fst).Nodup ∧ ∀ q ∈ w, A q.1 := by
  constructor
  · rintro ⟨h1, h2⟩
    refine ⟨List.pairwise_iff_getElem.mpr (fun i j hi hj hij e => ?_), fun q hq => ?_⟩
    · rw [List.getElem_map, List.getElem_map] at e
      rw [List.length_map] at hi hj
      have := h1 i j _ _ (List.getElem?_eq_getElem hi) (List.getElem?_eq_getElem hj) e
      omega
    · obtain ⟨k, hk⟩ := List.getElem?_of_mem hq
      exact h2 k q hk
  · rintro ⟨h1, h2⟩
    have h3 := List.pairwise_iff_getElem.mp h1
    have key : ∀ (i j : Nat) (p q : Nat × va_E), w[i]? = some p → w[j]? = some q → p.1 = q.1 → ¬ i < j := by
      intro i j p q hp hq e hij
      obtain ⟨hi, ei⟩ := List.getElem?_eq_some_iff.mp hp
      obtain ⟨hj, ej⟩ := List.getElem?_eq_some_iff.mp hq
      refine h3 i j (by rw [List.length_map]; exact hi) (by rw [List.length_map]; exact hj) hij ?_
      rw [List.getElem_map, List.getElem_map, ei, ej]
      exact e
    refine ⟨fun i j p q hp hq e => ?_, fun k q hk => h2 q (List.mem_of_getElem? hk)⟩
    have k1 := key i j p q hp hq e
    have k2 := key j i q p hq hp e.symm
    omega
theorem NM_perm {D : va_G} {A : Nat → Prop} {w w' : va_W} {H0 H : Heap} {locs : List Loc} (hp : w.Perm w') (h : NM D A w H0 H locs) : NM D A w' H0 H locs := by
  refine ⟨vaP_mem.mpr (fun q hq => vaP_mem.mp h.1 q (hp.mem_iff.mpr hq)), vaD_mem.mpr ⟨?_, fun q hq => (vaD_mem.mp h.2.1).2 q (hp.mem_iff.mpr hq)⟩, h.2.2⟩
  exact (hp.map Prod.fst).nodup_iff.mp (vaD_mem.mp h.2.1).1
theorem NM_left {D : va_G} {A : Nat → Prop} {w w' : va_W} {H0 H : Heap} {locs : List Loc} (h : NM D A (w ++ w') H0 H locs) : NM D A w H0 H locs := by
  refine ⟨vaP_mem.mpr (fun q hq => vaP_mem.mp h.1 q (List.mem_append_left _ hq)), vaD_mem.mpr ⟨?_, fun q hq => (vaD_mem.mp h.2.1).2 q (List.mem_append_left _ hq)⟩, h.2.2⟩
  have := (vaD_mem.mp h.2.1).1
  rw [List.map_append] at this
  exact (List.nodup_append.mp this).1
/-- the callee's part comes back beside the rest -/
theorem NM_join {D : va_G} {A A1 : Nat → Prop} {w wc w1 : va_W} {H0 H H1 : Heap} {locs locs1 : List Loc} (h : NM D A (w ++ wc) H0 H locs) (hk : ∀ q : Nat, q < H.size → ¬ A1 q → H1[q]? = H[q]?) (h1 : ∀ q, A1 q → (∃ en, (q, en) ∈ wc) ∨ H.size ≤ q) (hA1 : ∀ q, A1 q → A q) (hP : va_P D classes w1 H1) (hD : va_D A1 w1) (hS : va_S A H0 H1 locs1) : NM D A (w ++ w1) H0 H1 locs1 := by
  have hN := (vaD_mem.mp h.2.1)
  have hN1 := hN.1
  rw [List.map_append] at hN1
  obtain ⟨n1, n2, n3⟩ := List.nodup_append.mp hN1
  have ap : ∀ q ∈ w, ¬ A1 q.1 := by
    intro q hq z
    rcases h1 _ z with ⟨en, he⟩ | he
    · exact n3 q.1 (List.mem_map_of_mem hq) q.1 (List.mem_map.mpr ⟨(q.1, en), he, rfl⟩) rfl
    · have := (vaP_mem.mp h.1 q (List.mem_append_left _ hq)).lt
      omega
  refine ⟨vaP_mem.mpr (fun q hq => ?_), vaD_mem.mpr ⟨?_, fun q hq => ?_⟩, hS⟩
  · rcases List.mem_append.mp hq with hq | hq
    · have hat := vaP_mem.mp h.1 q (List.mem_append_left _ hq)
      exact hat.kept (hk q.1 hat.lt (ap q hq))
    · exact vaP_mem.mp hP q hq
  · rw [List.map_append]
    refine List.nodup_append.mpr ⟨n1, (vaD_mem.mp hD).1, fun x hx y hy e => ?_⟩
    obtain ⟨q, hq, rfl⟩ := List.mem_map.mp hx
    obtain ⟨q', hq', rfl⟩ := List.mem_map.mp hy
    exact ap q hq (by rw [e]; exact (vaD_mem.mp hD).2 q' hq')
  · rcases List.mem_append.mp hq with hq | hq
    · exact hN.2 q (List.mem_append_left _ hq)
    · exact hA1 _ ((vaD_mem.mp hD).2 q hq)
def nA (q sz : Nat) : Nat → Prop := fun x => x = q ∨ sz ≤ x
def nPc (D : va_G) (cT : Nat → ClassId) (w : va_W) (av : List Value) (sz : Nat) : Array Value → State → Prop := va_Pc av (fun U => U.heap.size = sz ∧ va_P D classes w U.heap ∧ KE D cT U)
theorem nPc_blind {D : va_G} {cT : Nat → ClassId} {w : va_W} {av : List Value} {sz : Nat} : FrameBlind (nPc D cT w av sz) := fun _ _ _ _ h => ⟨h.1, h.2.1, h.2.2.1, h.2.2.2.blind⟩
def nB (D : va_G) (A : Nat → Prop) (w : va_W) (t : State) : Prop := va_P D classes w t.heap ∧ va_D A w
/-- a constructor: the new object's cell, and what it makes -/
def NC (l : Launch) (D : va_G) (cT : Nat → ClassId) (y : MethodName) (b : ByteArray) (n fr lo mc ms : Nat) (av : List Value) (q ci : Nat) (fs : List Value) (sz : Nat) (post : va_W → Prop) : Prop := Met l y (wm y b n none) (rmA fr lo mc ms) (nPc D cT [(q, .inr (ci, fs))] (.ref q :: av) sz) (va_Qv post (nB D (nA q sz)) (nA q sz)) mc ms (nA q sz)
theorem ra_eq {U : State} {cA cB : ClassId} {ty : FieldType} (h1 : va_RA U cA ty) (h2 : va_RA U cB ty) : cA = cB := by
  cases ty with
  | object C =>
    obtain ⟨_, _, _, _, _, e1⟩ := h1
    obtain ⟨_, _, _, _, _, e2⟩ := h2
    exact Option.some.inj (e1.symm.trans e2)
  | _ => exact Option.some.inj (h1.symm.trans h2)
section AL
variable {p : Program} {l : Launch} {e : Env} {RM : Room} {s : State} {m : MethodId} {args : Array Value} {below : List Frame} {meth : Method} {c : Code} {H H0 : Heap} {locs : List Loc} {cells slots : Nat} {Q : State → Prop} {cc : ByteArray} {pc nL : Nat} {ls : Array Slot} {rest : List Value} {own : String}
variable {D : va_G} {cT : Nat → ClassId} {A : Nat → Prop} {w : va_W}
theorem nw_ent {y : MethodName} {b : ByteArray} {n fr lo mc ms q ci sz : Nat} {av fs : List Value} {post : va_W → Prop} (hy : plainName y.cls = true) (ho : y.cls = own) (hi : y.name = "<init>") (hlen : (lg_sl (.ref q :: av)).length ≤ n)
    (body : ∀ (p : Program) (e : Env) (s : State) (m : MethodId) (args : Array Value) (below : List Frame) (meth : Method) (c : Code) (Q : State → Prop), CallFix p m c b n s args GW own → KE D cT s → meth.name = "<init>" → (∀ x, s.heap.size ≤ x → nA q sz x) → NM D (nA q sz) [(q, .inr (ci, fs))] s.heap s.heap [] → (∀ (pc : Nat) (ls : Array Slot) (w : va_W) (H : Heap) (locs : List Loc), decode b pc = .ok (.return_, 1) → NM D (nA q sz) w s.heap H locs → post w → W p l e (rmA fr lo mc ms) s m args below meth c H locs mc ms Q (F0 m pc ls [])) → ∀ ls : Array Slot, lv_has ls n (lv_args 0 (.ref q :: av)) →
      W p l e (rmA fr lo mc ms) s m args below meth c s.heap [] 0 0 Q (F0 m 0 ls [])) : NC l D cT y b n fr lo mc ms av q ci fs sz post := by
  refine Met.ofW (cc := b) (maxL := n) (ret := none) hy rfl ?_
  intro p e s m args below meth c s₁ B hml hv
  obtain ⟨hv, hsz, hP, hK⟩ := hv
  subst hv
  subst hsz
  have hts := atoms_spec (ws := wm y b n none) B.pre
  have hD : va_D (nA q s.heap.size) [(q, .inr (ci, fs))] := vaD_mem.mpr ⟨List.nodup_cons.mpr ⟨List.not_mem_nil, List.nodup_nil⟩, fun x hx => by
    cases List.mem_singleton.mp hx
    exact Or.inl rfl⟩
  rw [lg_entry_eq]
  exact body p e s m _ below meth c _ ⟨B.exec, B.bytes, hml, by rw [← ho]; exact findClass_of_methodNamed B.named, fun w h => hts w (List.mem_cons_of_mem _ h)⟩ hK ((name_of_methodNamed B.named B.method).1.trans hi) (fun x hx => Or.inr hx) ⟨hP, hD, va_S.rf⟩ (fun pc ls w H locs hdg hM hp => W.vret B.exec B.bytes B.returns (fun t ht _ => ⟨⟨w, rfl, hp, by rw [ht]; exact hM.1, hM.2.1⟩, hM.2.2.F ht⟩) hM.2.2.2.2 hdg) _ (lv_entry _ hlen)
theorem nm_obj {idx a : Nat} (hC : CallFix p m c cc nL s args GW own) (hl : Cond.methodLink own idx objectInit ∈ GW) (hsz : ls.size = nL) (hR : 1 ≤ RM.frames ∧ (rest.map fun v => v.category).sum + 12 ≤ RM.locals) (hdg : decode cc pc = .ok (.invokespecial idx, 3))
    (kk : W p l e RM s m args below meth c H locs cells slots Q (F0 m (pc + 3) ls rest)) : W p l e RM s m args below meth c H locs cells slots Q (F0 m pc ls (.ref a :: rest)) := by
  refine W.objInit hC.1 hC.2.1 hC.2.2.2.1 (hC.2.2.2.2 _ hl) (hC.2.2.2.2 _ wi_Ob_init) (hC.2.2.2.2 _ wc_Ob_init) rfl (hsz.trans hC.2.2.1.symm) rfl hdg hR.1 (by show 2 * 0 + _ + 12 ≤ _; rw [Nat.mul_zero, Nat.zero_add]; exact hR.2) ?_
  exact W.eq (g2 := F0 m (pc + 3) ls rest) rfl kk
theorem nm_put {C ref : String} {T : u_T} {N ci index q : Nat} {fs : List Value} (hC : CallFix p m c cc nL s args GW own) (hin : ∀ w ∈ u_ws C T N, w ∈ GW) (ty0 : Nat → FieldType) (hty : ∀ k, k < N → parseFieldDescriptor (T k).2.2.1 = some (ty0 k)) (hnm : ∀ a, a < N → ∀ b, b < N → a ≠ b → (T a).2.1 ≠ (T b).2.1) (hK : KE D cT s) (hM : NM D A w H0 H locs) (q0 : Nat) (he : w[q0]? = some (q, .inr (ci, fs))) (hc : classes[ci]? = some (C, T, N)) (j : Nat) (hj : j < N) (hf : Cond.fieldLink own index ref (T j).2.1 (T j).2.2.1 ∈ GW) (h0 : (T j).1 = ref) (hfin : (T j).2.2.2 = false) {ty : FieldType} {v : Value} (hd : parseFieldDescriptor (T j).2.2.1 = some ty) (hn : narrow ty v = v) (hfit : fits ty v = true) (hl : j < fs.length) (hdg : decode cc pc = .ok (.putfield index, 3))
    (kk : ∀ (H1 : Heap) (locs1 : List Loc), NM D A (w.set q0 (q, .inr (ci, fs.set j v))) H0 H1 locs1 → W p l e RM s m args below meth c H1 locs1 cells slots Q (F0 m (pc + 3) ls rest)) : W p l e RM s m args below meth c H locs cells slots Q (F0 m pc ls (v :: .ref q :: rest)) :=
  va_put hC.1 hC.2.1 hC.2.2.2.2 hin ty0 hty hnm hC.2.2.2.1 hK.1 hM.1 hM.2.1 hM.2.2 q0 he hc j hj (hC.2.2.2.2 _ hf) (fun x hx => by rw [h0] at hx; exact hx) hfin hd hn hfit hl hdg (fun H1 locs1 hP hD hS => kk H1 locs1 ⟨hP, hD, hS⟩)
theorem nm_putF {C ref : String} {T : u_T} {N ci index q : Nat} {fs : List Value} (hC : CallFix p m c cc nL s args GW own) (hin : ∀ w ∈ u_ws C T N, w ∈ GW) (ty0 : Nat → FieldType) (hty : ∀ k, k < N → parseFieldDescriptor (T k).2.2.1 = some (ty0 k)) (hnm : ∀ a, a < N → ∀ b, b < N → a ≠ b → (T a).2.1 ≠ (T b).2.1) (hK : KE D cT s) (hM : NM D A w H0 H locs) (q0 : Nat) (he : w[q0]? = some (q, .inr (ci, fs))) (hc : classes[ci]? = some (C, T, N)) (j : Nat) (hj : j < N) (hf : Cond.fieldLink own index ref (T j).2.1 (T j).2.2.1 ∈ GW) (h0 : (T j).1 = ref) (hfin : (T j).2.2.2 = true) (hi : meth.name = "<init>") (hdc : (T j).1 = own) {ty : FieldType} {v : Value} (hd : parseFieldDescriptor (T j).2.2.1 = some ty) (hn : narrow ty v = v) (hfit : fits ty v = true) (hl : j < fs.length) (hdg : decode cc pc = .ok (.putfield index, 3))
    (kk : ∀ (H1 : Heap) (locs1 : List Loc), NM D A (w.set q0 (q, .inr (ci, fs.set j v))) H0 H1 locs1 → W p l e RM s m args below meth c H1 locs1 cells slots Q (F0 m (pc + 3) ls rest)) : W p l e RM s m args below meth c H locs cells slots Q (F0 m pc ls (v :: .ref q :: rest)) :=
  va_putF hC.1 hC.2.1 hC.2.2.2.2 hin ty0 hty hnm hC.2.2.2.1 hK.1 hM.1 hM.2.1 hM.2.2 q0 he hc j hj (hC.2.2.2.2 _ hf) (fun x hx => by rw [h0] at hx; exact hx) hfin hi hdc hd hn hfit hl hdg (fun H1 locs1 hP hD hS => kk H1 locs1 ⟨hP, hD, hS⟩)
theorem nm_newi {atype : ArrayType} {ty : FieldType} (hC : CallFix p m c cc nL s args GW own) (hty : newarray.typeOf atype = ty) (harr : Cond.arrayClass ty ∈ GW) (hK : KE D cT s) (k : Nat) (hk : (tysL cT)[k]? = some (cT k, ty)) (hM : NM D A w H0 H locs) (hA : ∀ q, H0.size ≤ q → A q) {n : Int32} {N' : Nat} {a0 : vp_A} (ha : ∀ cA : ClassId, vp_cell cA a0 = arrV cA N' (fun _ => defaultValue ty)) (hn : ¬ n < 0) (hN : n.toNatClampNeg = N') (hbytes : N' * componentBytes ty ≤ 536870912) (hcells : cells + 1 ≤ RM.cells) (hslots : slots + N' ≤ RM.slots) (hdg : decode cc pc = .ok (.newarray atype, 2))
    (kk : ∀ (q : Nat) (H1 : Heap), NM D A (w ++ [(q, .inl (cT k, a0))]) H0 H1 locs → W p l e RM s m args below meth c H1 locs (cells + 1) (slots + N') Q (F0 m (pc + 2) ls (.ref q :: rest))) : W p l e RM s m args below meth c H locs cells slots Q (F0 m pc ls (.int n :: rest)) := by
  refine va_newa hC.1 hC.2.1 (by rw [hty]; exact hC.2.2.2.2 _ harr) hty hK.1 hM.1 hM.2.1 hM.2.2 hA ha hn hN hbytes hcells hslots hdg (fun q cA H1 hK2 hP hD hS => ?_)
  have e1 := (hK2.2 (tysL cT).length (cA, ty) (by rw [List.getElem?_append_right (Nat.le_refl _), Nat.sub_self]; rfl)).2
  have e2 := (hK.1.2 k (cT k, ty) hk).2
  have e3 : cA = cT k := ra_eq e1 e2
  subst e3
  exact kk q H1 ⟨hP, hD, hS⟩
theorem nm_newq {C : String} {index : Nat} (hC : CallFix p m c cc nL s args GW own) (hcl : Cond.classLink own index C ∈ GW) (hover : va_AO C s) (hK : KE D cT s) (k : Nat) (hk : (tysL cT)[k]? = some (cT k, .object C)) (hM : NM D A w H0 H locs) (hA : ∀ q, H0.size ≤ q → A q) {n : Int32} {N' : Nat} (hn : ¬ n < 0) (hN : n.toNatClampNeg = N') (hbytes : N' * 4 ≤ 536870912) (hcells : cells + 1 ≤ RM.cells) (hslots : slots + N' ≤ RM.slots) (hdg : decode cc pc = .ok (.anewarray index, 3))
    (kk : ∀ (q : Nat) (H1 : Heap), NM D A (w ++ [(q, .inl (cT k, N', .inr (.inr (.inr (.inr (fun _ => none))))))]) H0 H1 locs → W p l e RM s m args below meth c H1 locs (cells + 1) (slots + N') Q (F0 m (pc + 3) ls (.ref q :: rest))) : W p l e RM s m args below meth c H locs cells slots Q (F0 m pc ls (.int n :: rest)) := by
  refine va_newq hC.1 hC.2.1 hC.2.2.2.1 (hC.2.2.2.2 _ hcl) hover hK.1 hM.1 hM.2.1 hM.2.2 hA hn hN hbytes hcells hslots hdg (fun q cA H1 hK2 hP hD hS => ?_)
  have e1 := (hK2.2 (tysL cT).length (cA, .object C) (by rw [List.getElem?_append_right (Nat.le_refl _), Nat.sub_self]; rfl)).2
  have e2 := (hK.1.2 k (cT k, .object C) hk).2
  have e3 : cA = cT k := ra_eq e1 e2
  subst e3
  exact kk q H1 ⟨hP, hD, hS⟩
theorem nm_new {C : String} {T : u_T} {N ci index : Nat} {fs : List Value} (hC : CallFix p m c cc nL s args GW own) (hin : ∀ w ∈ u_ws C T N, w ∈ GW) (ty : Nat → FieldType) (hty : ∀ k, k < N → parseFieldDescriptor (T k).2.2.1 = some (ty k)) (hcl : Cond.classLink own index C ∈ GW) (hinst : Cond.instantiable C N ∈ GW) (hini : Cond.initialized C ∈ GW) (hK : KE D cT s) (hM : NM D A w H0 H locs) (hA : ∀ q, H0.size ≤ q → A q) (hc : classes[ci]? = some (C, T, N)) (hfs : ∀ j, j < N → defaultValue (ty j) = vp_V fs j) (hcells : cells + 1 ≤ RM.cells) (hslots : slots + N ≤ RM.slots) (hdg : decode cc pc = .ok (.new index, 3))
    (kk : ∀ (q : Nat) (H1 : Heap), NM D A (w ++ [(q, .inr (ci, fs))]) H0 H1 locs → W p l e RM s m args below meth c H1 locs (cells + 1) (slots + N) Q (F0 m (pc + 3) ls (.ref q :: rest))) : W p l e RM s m args below meth c H locs cells slots Q (F0 m pc ls rest) :=
  va_new hC.1 hC.2.1 hC.2.2.2.2 hin ty hty hC.2.2.2.1 (hC.2.2.2.2 _ hcl) (hC.2.2.2.2 _ hinst) (hC.2.2.2.2 _ hini) hK.1 hM.1 hM.2.1 hM.2.2 hA hc hfs hcells hslots hdg (fun q H1 hP hD hS => kk q H1 ⟨hP, hD, hS⟩)
theorem nm_sub1 {q : Nat} {en : va_E} (hM : NM D A (w ++ [(q, en)]) H0 H locs) : va_P D classes [(q, en)] H := vaP_mem.mpr (fun x hx => vaP_mem.mp hM.1 x (List.mem_append_right _ hx))
theorem nm_A1 {q : Nat} {en : va_E} (hM : NM D A (w ++ [(q, en)]) H0 H locs) (hA : ∀ q, H0.size ≤ q → A q) : ∀ x, nA q H.size x → A x := by
  intro x hx
  rcases hx with rfl | hx
  · exact (vaD_mem.mp hM.2.1).2 (x, en) (List.mem_append_right _ List.mem_cons_self)
  · exact hA x (Nat.le_trans hM.2.2.1 hx)
theorem nm_init {y : MethodName} {b : ByteArray} {n np index fr lo mc ms q ci : Nat} {av st fs : List Value} {post : va_W → Prop} (hC : CallFix p m c cc nL s args GW own) (hK : KE D cT s) (hM : NM D A (w ++ [(q, .inr (ci, fs))]) H0 H locs) (hA : ∀ q, H0.size ≤ q → A q) (hm : NC l D cT y b n fr lo mc ms av q ci fs H.size post) (hw : Cond.methodLink own index y ∈ GW ∧ Cond.instanceMethod y ∈ GW ∧ Cond.code y b n none ∈ GW ∧ Cond.initialized y.cls ∈ GW) (hi : y.name = "<init>") (hd : y.cls ≠ "java/lang/invoke/MethodHandle" ∧ y.cls ≠ "java/lang/invoke/VarHandle" ∧ (parseMethodDescriptor y.desc).map (fun d => d.parameters.length) = some np) (hR : fr + 1 ≤ RM.frames ∧ 8 + (n + 11) + lo ≤ RM.locals) (hsz : ls.size = nL) (hn : av.length = np) (hst : st = av.reverse ++ .ref q :: rest) (hcat : (rest.map fun v => v.category).sum ≤ 8) (hf : cells + mc ≤ RM.cells ∧ slots + ms ≤ RM.slots) (hdg : decode cc pc = .ok (.invokespecial index, 3))
    (kk : ∀ (w1 : va_W) (H1 : Heap) (locs1 : List Loc), post w1 → NM D A (w ++ w1) H0 H1 locs1 → W p l e RM s m args below meth c H1 locs1 (cells + mc) (slots + ms) Q (F0 m (pc + 3) ls rest)) : W p l e RM s m args below meth c H locs cells slots Q (F0 m pc ls st) :=
  va_callv (va_runI (As := av) (rest := rest) hC hm (cwI np hC.2.2.2.2 (gm hw.2.2.1) rfl rfl rfl (hC.2.2.2.2 _ hw.2.2.2) (hC.2.2.2.2 _ hw.1) (hC.2.2.2.2 _ hw.2.1) hi hd hR) ⟨nPc_blind, fun U hU hW => ⟨rfl, by rw [hU], by rw [hU]; exact nm_sub1 hM, hK.moved hW⟩⟩ rfl hn hsz hst (lv_room hcat) hdg hf) hM.2.2 (fun x _ hx => nm_A1 hM hA x hx) (nm_A1 hM hA) (fun u t H1 locs1 ht hvm hp hB hz hk hS => kk u H1 locs1 hp (NM_join hM hk (fun x hx => hx.elim (fun h => Or.inl ⟨.inr (ci, fs), by rw [h]; exact List.mem_cons_self⟩) Or.inr) (nm_A1 hM hA) (by rw [← ht]; exact hB.1) hB.2 hS))
theorem nm_initN {y : MethodName} {b : ByteArray} {n np index fr lo mc ms q ci : Nat} {host : String} {av st fs : List Value} {post : va_W → Prop} (hC : CallFix p m c cc nL s args GW own) (hK : KE D cT s) (hM : NM D A (w ++ [(q, .inr (ci, fs))]) H0 H locs) (hA : ∀ q, H0.size ≤ q → A q) (hm : NC l D cT y b n fr lo mc ms av q ci fs H.size post) (hw : Cond.methodLinkNest own index y host ∈ NWl ∧ Cond.instanceMethod y ∈ GW ∧ Cond.code y b n none ∈ GW ∧ Cond.initialized y.cls ∈ GW) (hi : y.name = "<init>") (hd : y.cls ≠ "java/lang/invoke/MethodHandle" ∧ y.cls ≠ "java/lang/invoke/VarHandle" ∧ (parseMethodDescriptor y.desc).map (fun d => d.parameters.length) = some np) (hR : fr + 1 ≤ RM.frames ∧ 8 + (n + 11) + lo ≤ RM.locals) (hsz : ls.size = nL) (hn : av.length = np) (hst : st = av.reverse ++ .ref q :: rest) (hcat : (rest.map fun v => v.category).sum ≤ 8) (hf : cells + mc ≤ RM.cells ∧ slots + ms ≤ RM.slots) (hdg : decode cc pc = .ok (.invokespecial index, 3))
    (kk : ∀ (w1 : va_W) (H1 : Heap) (locs1 : List Loc), post w1 → NM D A (w ++ w1) H0 H1 locs1 → W p l e RM s m args below meth c H1 locs1 (cells + mc) (slots + ms) Q (F0 m (pc + 3) ls rest)) : W p l e RM s m args below meth c H locs cells slots Q (F0 m pc ls st) :=
  va_callv (va_runIN (As := av) (rest := rest) (host := host) hC hm ⟨va_cnB np hC.2.2.2.2 (gm hw.2.2.1) rfl rfl rfl (hK.2.1 _ hw.1) (hC.2.2.2.2 _ hw.2.2.2) hd hR, hi, hC.2.2.2.2 _ hw.2.1⟩ ⟨nPc_blind, fun U hU hW => ⟨rfl, by rw [hU], by rw [hU]; exact nm_sub1 hM, hK.moved hW⟩⟩ rfl hn hsz hst (lv_room hcat) hdg hf) hM.2.2 (fun x _ hx => nm_A1 hM hA x hx) (nm_A1 hM hA) (fun u t H1 locs1 ht hvm hp hB hz hk hS => kk u H1 locs1 hp (NM_join hM hk (fun x hx => hx.elim (fun h => Or.inl ⟨.inr (ci, fs), by rw [h]; exact List.mem_cons_self⟩) Or.inr) (nm_A1 hM hA) (by rw [← ht]; exact hB.1) hB.2 hS))
/-- a constructor that touches nothing (the forms' own) -/
def NF (l : Launch) (y : MethodName) (b : ByteArray) (n fr lo : Nat) (q : Nat) : Prop := Met l y (wm y b n none) (rmOf fr lo) (fun v _ => v = [Value.ref q].toArray) (va_Sv (fun _ => True)) 0 0 (fun _ => False)
theorem nf_callN {y : MethodName} {b : ByteArray} {n index fr lo q : Nat} {host : String} {st : List Value} (hC : CallFix p m c cc nL s args GW own) (hK : KE D cT s) (hm : NF l y b n fr lo q) (hw : Cond.methodLinkNest own index y host ∈ NWl ∧ Cond.instanceMethod y ∈ GW ∧ Cond.code y b n none ∈ GW ∧ Cond.initialized y.cls ∈ GW) (hi : y.name = "<init>") (hd : y.cls ≠ "java/lang/invoke/MethodHandle" ∧ y.cls ≠ "java/lang/invoke/VarHandle" ∧ (parseMethodDescriptor y.desc).map (fun d => d.parameters.length) = some 0) (hR : fr + 1 ≤ RM.frames ∧ 8 + (n + 11) + lo ≤ RM.locals) (hsz : ls.size = nL) (hst : st = .ref q :: rest) (hcat : (rest.map fun v => v.category).sum ≤ 8) (hf : cells ≤ RM.cells ∧ slots ≤ RM.slots) (hdg : decode cc pc = .ok (.invokespecial index, 3))
    (kk : W p l e RM s m args below meth c H locs cells slots Q (F0 m (pc + 3) ls rest)) : W p l e RM s m args below meth c H locs cells slots Q (F0 m pc ls st) :=
  va_csv (va_runIN (As := []) (rest := rest) (host := host) hC hm ⟨va_cnB 0 hC.2.2.2.2 (gm hw.2.2.1) rfl rfl rfl (hK.2.1 _ hw.1) (hC.2.2.2.2 _ hw.2.2.2) hd hR, hi, hC.2.2.2.2 _ hw.2.1⟩ ⟨fun _ _ _ _ h => h, fun _ _ _ => rfl⟩ rfl rfl hsz hst (lv_room hcat) hdg hf).run (fun _ => kk)
end AL
set_option maxHeartbeats 400000 in
theorem c_Fo_init (l : Launch) (q : Nat) : NF l y_Fo_init b_Fo_init 1 1 12 q := by
  refine Met.ofW (cc := b_Fo_init) (maxL := 1) (ret := none) (by decide) rfl ?_
  intro p e s m args below meth c s₁ B hml hv
  have hv : args = [Value.ref q].toArray := hv
  subst hv
  have hts := atoms_spec (ws := wm y_Fo_init b_Fo_init 1 none) B.pre
  have hC : CallFix p m c b_Fo_init 1 s [Value.ref q].toArray GW R_Fo := ⟨B.exec, B.bytes, hml, findClass_of_methodNamed B.named, fun w h => hts w (List.mem_cons_of_mem _ h)⟩
  have hx := hC.1
  have hb := hC.2.1
  have hl := lv_entry ([Value.ref q]) (n := 1) (Nat.le_of_ble_eq_true rfl)
  rw [lg_entry_eq]
  generalize (lg_sl ([Value.ref q]) ++ List.replicate (1 - (lg_sl ([Value.ref q])).length) Slot.unset).toArray = ls at hl ⊢
  replace hl : lv_has ls 1 [(0, .ref q)] := hl
  refine lv_aload_n hx hb d_Fo_init_0 rfl (lv_at hl 0 rfl) ?_
  refine nm_obj hC wl_Fo_1 hl.1 ⟨Nat.le_of_ble_eq_true rfl, Nat.le_of_ble_eq_true rfl⟩ d_Fo_init_1 ?_
  exact W.vret B.exec B.bytes B.returns (fun t ht _ => ⟨rfl, trivial, ht⟩) (fun _ h => by cases h) d_Fo_init_4
