/-! the String constants of the class, and the JDK's methods on them -/
def slen : List Nat := [4, 3, 5, 2, 3, 4, 4, 4, 4, 3]
def sbyt : List (List Int32) := [[98, 97, 108, 108], [98, 111, 120], [112, 108, 97, 110, 101], [111, 114], [97, 110, 100], [108, 101, 115, 115], [109, 111, 118, 101], [116, 117, 114, 110], [102, 108, 105, 112], [114, 101, 112]]
def sent : List Nat := [121, 123, 125, 127, 129, 131, 133, 135, 137, 139]
def stx : List String := ["ball", "box", "plane", "or", "and", "less", "move", "turn", "flip", "rep"]
def SE (adK adV : Nat → Nat) (N0 : Nat) (U : State) : Prop := N0 ≤ U.heap.size ∧ vk_S 10 slen sbyt adK adV (fun q => N0 ≤ q) U U.heap ∧ (∀ i : Nat, i < 10 → vk_R R_Rd (sent.getD i 0) (stx.getD i "") (adK i) U) ∧ va_Z R_St "COMPACT_STRINGS" "Z" (.int 1) (fun q => N0 ≤ q) U U.heap ∧ va_Zq R_Pr "SIOOBE_FORMATTER" "Ljava/util/function/BiFunction;" (fun q => N0 ≤ q) U U.heap
theorem SE.to {adK adV : Nat → Nat} {N0 : Nat} {s U : State} {A : Nat → Prop} {H : Heap} {locs : List Loc} (h : SE adK adV N0 s) (hU : U.heap = H) (hW : s.WarmedH U.vm) (hS : va_S A s.heap H locs) (hA : ∀ q, A q → N0 ≤ q) : SE adK adV N0 U := by
  obtain ⟨h1, h2, h3, h4, h5⟩ := h
  have kk : ∀ a : Nat, a < s.heap.size → ¬ N0 ≤ a → U.heap[a]? = s.heap[a]? := fun a ha hn => by rw [hU]; exact hS.2.1 a ha (fun z => hn (hA a z))
  exact ⟨by rw [hU]; exact Nat.le_trans h1 hS.1, (h2.kept kk).moved hW.alike, fun i hi => (h3 i hi).warm hW, (h4.kept kk).moved hW.alike, (h5.kept kk).moved hW.alike⟩
theorem SE.blind {adK adV : Nat → Nat} {N0 : Nat} {U : State} {g : JFrame} {mk : MethodId} {a : Array Value} (h : SE adK adV N0 U) : SE adK adV N0 (U.calling g mk a) := by
  obtain ⟨h1, h2, h3, h4, h5⟩ := h
  exact ⟨h1, vk_S.moved (u := U) (U := U.calling g mk a) (Vm.Alike.refl U.vm) h2, fun i hi => vk_R.same (u := U) (U := U.calling g mk a) rfl (h3 i hi), va_Z.moved (u := U) (U := U.calling g mk a) (Vm.Alike.refl U.vm) h4, va_Zq.moved (u := U) (U := U.calling g mk a) (Vm.Alike.refl U.vm) h5⟩
def zPc (adK adV : Nat → Nat) (N0 : Nat) (av : List Value) : Array Value → State → Prop := va_Pc av (fun U => SE adK adV N0 U)
theorem zPc_blind {adK adV : Nat → Nat} {N0 : Nat} {av : List Value} : FrameBlind (zPc adK adV N0 av) := fun _ _ _ _ h => ⟨h.1, h.2.blind⟩
def ZSi (l : Launch) (adK adV : Nat → Nat) (N0 : Nat) (y : MethodName) (b : ByteArray) (n : Nat) (r : Option FieldType) (fr lo : Nat) (av : List Value) (post : Int32 → Prop) : Prop := Met l y (wm y b n r) (rmOf fr lo) (zPc adK adV N0 av) (vp_Si post) 0 0 (fun _ => False)
def ZSv (l : Launch) (adK adV : Nat → Nat) (N0 : Nat) (y : MethodName) (b : ByteArray) (n : Nat) (r : Option FieldType) (fr lo : Nat) (av : List Value) : Prop := Met l y (wm y b n r) (rmOf fr lo) (zPc adK adV N0 av) (va_Sv (fun _ => True)) 0 0 (fun _ => False)
def ZSq (l : Launch) (adK adV : Nat → Nat) (N0 : Nat) (y : MethodName) (b : ByteArray) (n : Nat) (r : Option FieldType) (fr lo : Nat) (av : List Value) (post : Option Nat → Prop) : Prop := Met l y (wm y b n r) (rmOf fr lo) (zPc adK adV N0 av) (va_Sq post) 0 0 (fun _ => False)
section ZS
variable {p : Program} {l : Launch} {e : Env} {RM : Room} {s : State} {m : MethodId} {args : Array Value} {below : List Frame} {meth : Method} {c : Code} {H H0 : Heap} {locs : List Loc} {cells slots : Nat} {Q : State → Prop} {cc : ByteArray} {pc nL : Nat} {ls : Array Slot} {rest : List Value} {own : String}
variable {adK adV : Nat → Nat} {N0 : Nat} {A : Nat → Prop}
theorem zs_enti {y : MethodName} {b : ByteArray} {n : Nat} {fr lo : Nat} {av : List Value} {post : Int32 → Prop} {ty : FieldType} (hy : plainFor y = true) (ho : y.cls = own) (hlen : (lg_sl av).length ≤ n)
    (body : ∀ (p : Program) (e : Env) (s : State) (m : MethodId) (args : Array Value) (below : List Frame) (meth : Method) (c : Code) (Q : State → Prop), CallFix p m c b n s args GW own → SE adK adV N0 s → (∀ (pc : Nat) (ls : Array Slot) (v : Int32), decode b pc = .ok (.ireturn, 1) → narrow ty (.int v) = .int v → post v → W p l e (rmOf fr lo) s m args below meth c s.heap [] 0 0 Q (F0 m pc ls [.int v])) → ∀ ls : Array Slot, lv_has ls n (lv_args 0 av) →
      W p l e (rmOf fr lo) s m args below meth c s.heap [] 0 0 Q (F0 m 0 ls [])) : ZSi l adK adV N0 y b n (some ty) fr lo av post := by
  refine va_MetF (cc := b) (maxL := n) (ret := some ty) hy rfl ?_
  intro p e s m args below meth c s₁ B hml hv
  obtain ⟨hv, hZ⟩ := hv
  subst hv
  have hts := atoms_spec (ws := wm y b n (some ty)) B.pre
  rw [lg_entry_eq]
  exact body p e s m _ below meth c _ ⟨B.exec, B.bytes, hml, by rw [← ho]; exact findClass_of_methodNamed B.named, fun w h => hts w (List.mem_cons_of_mem _ h)⟩ hZ (fun pc ls v hdg hn hp => W.zret B.exec B.bytes B.returns hn (fun t ht _ => ⟨v, rfl, hp, ht⟩) (fun _ h => by cases h) hdg) _ (lv_entry av hlen)
theorem zs_entv {y : MethodName} {b : ByteArray} {n : Nat} {fr lo : Nat} {av : List Value} (hy : plainFor y = true) (ho : y.cls = own) (hlen : (lg_sl av).length ≤ n)
    (body : ∀ (p : Program) (e : Env) (s : State) (m : MethodId) (args : Array Value) (below : List Frame) (meth : Method) (c : Code) (Q : State → Prop), CallFix p m c b n s args GW own → SE adK adV N0 s → (∀ (pc : Nat) (ls : Array Slot), decode b pc = .ok (.return_, 1) → W p l e (rmOf fr lo) s m args below meth c s.heap [] 0 0 Q (F0 m pc ls [])) → ∀ ls : Array Slot, lv_has ls n (lv_args 0 av) →
      W p l e (rmOf fr lo) s m args below meth c s.heap [] 0 0 Q (F0 m 0 ls [])) : ZSv l adK adV N0 y b n none fr lo av := by
  refine va_MetF (cc := b) (maxL := n) (ret := none) hy rfl ?_
  intro p e s m args below meth c s₁ B hml hv
  obtain ⟨hv, hZ⟩ := hv
  subst hv
  have hts := atoms_spec (ws := wm y b n none) B.pre
  rw [lg_entry_eq]
  exact body p e s m _ below meth c _ ⟨B.exec, B.bytes, hml, by rw [← ho]; exact findClass_of_methodNamed B.named, fun w h => hts w (List.mem_cons_of_mem _ h)⟩ hZ (fun pc ls hdg => W.vret B.exec B.bytes B.returns (fun t ht _ => ⟨rfl, trivial, ht⟩) (fun _ h => by cases h) hdg) _ (lv_entry av hlen)
theorem zs_entq {y : MethodName} {b : ByteArray} {n : Nat} {fr lo : Nat} {av : List Value} {post : Option Nat → Prop} {C : String} (hy : plainFor y = true) (ho : y.cls = own) (hlen : (lg_sl av).length ≤ n)
    (body : ∀ (p : Program) (e : Env) (s : State) (m : MethodId) (args : Array Value) (below : List Frame) (meth : Method) (c : Code) (Q : State → Prop), CallFix p m c b n s args GW own → SE adK adV N0 s → (∀ (pc : Nat) (ls : Array Slot) (q : Nat), decode b pc = .ok (.areturn, 1) → post (some q) → W p l e (rmOf fr lo) s m args below meth c s.heap [] 0 0 Q (F0 m pc ls [.ref q])) → ∀ ls : Array Slot, lv_has ls n (lv_args 0 av) →
      W p l e (rmOf fr lo) s m args below meth c s.heap [] 0 0 Q (F0 m 0 ls [])) : ZSq l adK adV N0 y b n (some (.object C)) fr lo av post := by
  refine va_MetF (cc := b) (maxL := n) (ret := some (.object C)) hy rfl ?_
  intro p e s m args below meth c s₁ B hml hv
  obtain ⟨hv, hZ⟩ := hv
  subst hv
  have hts := atoms_spec (ws := wm y b n (some (.object C))) B.pre
  rw [lg_entry_eq]
  exact body p e s m _ below meth c _ ⟨B.exec, B.bytes, hml, by rw [← ho]; exact findClass_of_methodNamed B.named, fun w h => hts w (List.mem_cons_of_mem _ h)⟩ hZ (fun pc ls q hdg hp => W.aret B.exec B.bytes B.returns (Or.inl ⟨_, rfl⟩) (Or.inr ⟨q, rfl⟩) (fun t ht _ => ⟨some q, rfl, hp, ht⟩) (fun _ h => by cases h) hdg) _ (lv_entry av hlen)
theorem zs_callS {y : MethodName} {b : ByteArray} {n np index fr lo : Nat} {r : Option FieldType} {av st : List Value} {post : Int32 → Prop} (hC : CallFix p m c cc nL s args GW own) (hZ : SE adK adV N0 s) (hS : va_S A s.heap H locs) (hA : ∀ q, A q → N0 ≤ q) (hm : ZSi l adK adV N0 y b n r fr lo av post) (hw : Cond.methodLink own index y ∈ GW ∧ Cond.static y ∈ GW ∧ Cond.code y b n r ∈ GW ∧ Cond.initialized y.cls ∈ GW) (hd : y.cls ≠ "java/lang/invoke/MethodHandle" ∧ y.cls ≠ "java/lang/invoke/VarHandle" ∧ (parseMethodDescriptor y.desc).map (fun d => d.parameters.length) = some np) (hR : fr + 1 ≤ RM.frames ∧ 8 + (n + 11) + lo ≤ RM.locals) (hsz : ls.size = nL) (hn : av.length = np) (hst : st = av.reverse ++ rest) (hcat : (rest.map fun v => v.category).sum ≤ 8) (hf : cells ≤ RM.cells ∧ slots ≤ RM.slots) (hdg : decode cc pc = .ok (.invokestatic index, 3))
    (kk : ∀ r : Int32, post r → W p l e RM s m args below meth c H locs cells slots Q (F0 m (pc + 3) ls (.int r :: rest))) : W p l e RM s m args below meth c H locs cells slots Q (F0 m pc ls st) :=
  vp_callSi (W.runS (As := av) (rest := rest) hC hm (cw_S hC.2.2.2.2 hw hd hR) ⟨zPc_blind, fun U hU hW => ⟨rfl, hZ.to hU hW hS hA⟩⟩ rfl hn hsz hst (lv_room hcat) hdg hf) kk
theorem zs_callSv {y : MethodName} {b : ByteArray} {n np index fr lo : Nat} {r : Option FieldType} {av st : List Value} (hC : CallFix p m c cc nL s args GW own) (hZ : SE adK adV N0 s) (hS : va_S A s.heap H locs) (hA : ∀ q, A q → N0 ≤ q) (hm : ZSv l adK adV N0 y b n r fr lo av) (hw : Cond.methodLink own index y ∈ GW ∧ Cond.static y ∈ GW ∧ Cond.code y b n r ∈ GW ∧ Cond.initialized y.cls ∈ GW) (hd : y.cls ≠ "java/lang/invoke/MethodHandle" ∧ y.cls ≠ "java/lang/invoke/VarHandle" ∧ (parseMethodDescriptor y.desc).map (fun d => d.parameters.length) = some np) (hR : fr + 1 ≤ RM.frames ∧ 8 + (n + 11) + lo ≤ RM.locals) (hsz : ls.size = nL) (hn : av.length = np) (hst : st = av.reverse ++ rest) (hcat : (rest.map fun v => v.category).sum ≤ 8) (hf : cells ≤ RM.cells ∧ slots ≤ RM.slots) (hdg : decode cc pc = .ok (.invokestatic index, 3))
    (kk : W p l e RM s m args below meth c H locs cells slots Q (F0 m (pc + 3) ls rest)) : W p l e RM s m args below meth c H locs cells slots Q (F0 m pc ls st) :=
  va_csv (W.runS (As := av) (rest := rest) hC hm (cw_S hC.2.2.2.2 hw hd hR) ⟨zPc_blind, fun U hU hW => ⟨rfl, hZ.to hU hW hS hA⟩⟩ rfl hn hsz hst (lv_room hcat) hdg hf) (fun _ => kk)
theorem zs_callSq {y : MethodName} {b : ByteArray} {n np index fr lo : Nat} {r : Option FieldType} {av st : List Value} {post : Option Nat → Prop} (hC : CallFix p m c cc nL s args GW own) (hZ : SE adK adV N0 s) (hS : va_S A s.heap H locs) (hA : ∀ q, A q → N0 ≤ q) (hm : ZSq l adK adV N0 y b n r fr lo av post) (hw : Cond.methodLink own index y ∈ GW ∧ Cond.static y ∈ GW ∧ Cond.code y b n r ∈ GW ∧ Cond.initialized y.cls ∈ GW) (hd : y.cls ≠ "java/lang/invoke/MethodHandle" ∧ y.cls ≠ "java/lang/invoke/VarHandle" ∧ (parseMethodDescriptor y.desc).map (fun d => d.parameters.length) = some np) (hR : fr + 1 ≤ RM.frames ∧ 8 + (n + 11) + lo ≤ RM.locals) (hsz : ls.size = nL) (hn : av.length = np) (hst : st = av.reverse ++ rest) (hcat : (rest.map fun v => v.category).sum ≤ 8) (hf : cells ≤ RM.cells ∧ slots ≤ RM.slots) (hdg : decode cc pc = .ok (.invokestatic index, 3))
    (kk : ∀ r : Option Nat, post r → W p l e RM s m args below meth c H locs cells slots Q (F0 m (pc + 3) ls (va_rf r :: rest))) : W p l e RM s m args below meth c H locs cells slots Q (F0 m pc ls st) :=
  va_csq (W.runS (As := av) (rest := rest) hC hm (cw_S hC.2.2.2.2 hw hd hR) ⟨zPc_blind, fun U hU hW => ⟨rfl, hZ.to hU hW hS hA⟩⟩ rfl hn hsz hst (lv_room hcat) hdg hf) kk
theorem zs_callV {y : MethodName} {b : ByteArray} {n np index fr lo i : Nat} {r : Option FieldType} {av st : List Value} {post : Int32 → Prop} (hC : CallFix p m c cc nL s args GW own) (hZ : SE adK adV N0 s) (hS : va_S A s.heap H locs) (hA : ∀ q, A q → N0 ≤ q) (hi : i < 10) (hm : ZSi l adK adV N0 y b n r fr lo (.ref (adK i) :: av) post) (hy : y.cls = R_St) (hw : Cond.methodLink own index y ∈ GW ∧ Cond.instanceMethod y ∈ GW ∧ Cond.selects y.cls y y ∈ GW ∧ Cond.code y b n r ∈ GW ∧ Cond.initialized y.cls ∈ GW) (hd : y.cls ≠ "java/lang/invoke/MethodHandle" ∧ y.cls ≠ "java/lang/invoke/VarHandle" ∧ (parseMethodDescriptor y.desc).map (fun d => d.parameters.length) = some np) (hR : fr + 1 ≤ RM.frames ∧ 8 + (n + 11) + lo ≤ RM.locals) (hsz : ls.size = nL) (hn : av.length = np) (hst : st = av.reverse ++ .ref (adK i) :: rest) (hcat : (rest.map fun v => v.category).sum ≤ 8) (hf : cells ≤ RM.cells ∧ slots ≤ RM.slots) (hdg : decode cc pc = .ok (.invokevirtual index, 3))
    (kk : ∀ r : Int32, post r → W p l e RM s m args below meth c H locs cells slots Q (F0 m (pc + 3) ls (.int r :: rest))) : W p l e RM s m args below meth c H locs cells slots Q (F0 m pc ls st) :=
  vp_callSi (W.runV (As := av) (rest := rest) hC hm (cw_V hC.2.2.2.2 hw hd hR) ⟨zPc_blind, by rw [hy]; exact vk_recv hZ.2.1 hi (A := fun q => N0 ≤ q) ⟨hS.1, fun q h1 h2 => hS.2.1 q h1 (fun z => h2 (hA q z)), fun q h => hA _ (hS.2.2 q h)⟩, fun U hU hW => ⟨rfl, hZ.to hU hW hS hA⟩⟩ rfl hn hsz hst (lv_room hcat) hdg hf) kk
end ZS
theorem sS0 {N0 : Nat} {s : State} : va_S (fun q => N0 ≤ q) s.heap s.heap [] := va_S.rf
set_option maxHeartbeats 400000 in
theorem c_Pr_checkIndex (l : Launch) (k n : Nat) (o : Option Nat) (hk : k < n) (hn : n < 1000) : SMi l y_Pr_checkIndex b_Pr_checkIndex 3 (some .int) 0 0 [.int (nI k), .int (nI n), va_rf o] (fun r => r = nI k) := by
  cases o with
  | none =>
    refine st_entJ (own := R_Pr) (by decide +kernel) rfl (Nat.le_of_ble_eq_true rfl) ?_
    intro p e s m args below meth c Q hC hret ls hl
    have hx := hC.1
    have hb := hC.2.1
    replace hl : lv_has ls 3 [(0, .int (nI k)), (1, .int (nI n)), (2, .null)] := hl
    refine lv_iload_n hx hb d_Pr_checkIndex_0 rfl (lv_at hl 0 rfl) ?_
    refine zz_lt hx hb (↑k : Int) (by omega) (by omega) d_Pr_checkIndex_1 (tgt := 9) (by decide) (fun h1 => by exfalso; omega) (fun h1 => ?_)
    refine lv_iload_n hx hb d_Pr_checkIndex_4 rfl (lv_at hl 0 rfl) ?_
    refine lv_iload_n hx hb d_Pr_checkIndex_5 rfl (lv_at hl 1 rfl) ?_
    refine nc_lt hx hb k n (by omega) (by omega) d_Pr_checkIndex_6 (tgt := 16) (by decide) (fun h2 => ?_) (fun h2 => absurd hk h2)
    refine lv_iload_n hx hb d_Pr_checkIndex_16 rfl (lv_at hl 0 rfl) ?_
    exact hret _ _ _ d_Pr_checkIndex_17 rfl
  | some q =>
    refine st_entJ (own := R_Pr) (by decide +kernel) rfl (Nat.le_of_ble_eq_true rfl) ?_
    intro p e s m args below meth c Q hC hret ls hl
    have hx := hC.1
    have hb := hC.2.1
    replace hl : lv_has ls 3 [(0, .int (nI k)), (1, .int (nI n)), (2, .ref q)] := hl
    refine lv_iload_n hx hb d_Pr_checkIndex_0 rfl (lv_at hl 0 rfl) ?_
    refine zz_lt hx hb (↑k : Int) (by omega) (by omega) d_Pr_checkIndex_1 (tgt := 9) (by decide) (fun h1 => by exfalso; omega) (fun h1 => ?_)
    refine lv_iload_n hx hb d_Pr_checkIndex_4 rfl (lv_at hl 0 rfl) ?_
    refine lv_iload_n hx hb d_Pr_checkIndex_5 rfl (lv_at hl 1 rfl) ?_
    refine nc_lt hx hb k n (by omega) (by omega) d_Pr_checkIndex_6 (tgt := 16) (by decide) (fun h2 => ?_) (fun h2 => absurd hk h2)
    refine lv_iload_n hx hb d_Pr_checkIndex_16 rfl (lv_at hl 0 rfl) ?_
    exact hret _ _ _ d_Pr_checkIndex_17 rfl
set_option maxHeartbeats 400000 in
theorem c_St_checkIndex (l : Launch) (adK adV : Nat → Nat) (N0 : Nat) (k n : Nat) (hk : k < n) (hn : n < 1000) : ZSv l adK adV N0 y_St_checkIndex b_St_checkIndex 2 none 1 22 [.int (nI k), .int (nI n)] := by
  refine zs_entv (own := R_St) (by decide +kernel) rfl (Nat.le_of_ble_eq_true rfl) ?_
  intro p e s m args below meth c Q hC hZ hret ls hl
  have hx := hC.1
  have hb := hC.2.1
  replace hl : lv_has ls 2 [(0, .int (nI k)), (1, .int (nI n))] := hl
  refine lv_iload_n hx hb d_St_checkIndex_0 rfl (lv_at hl 0 rfl) ?_
  refine lv_iload_n hx hb d_St_checkIndex_1 rfl (lv_at hl 1 rfl) ?_
  rcases hZ.2.2.2.2 with hq | ⟨t, hq⟩
  · refine va_gets hx hb hq sS0 hC.2.2.2.1 (hC.2.2.2.2 _ wf_St_1053) (fun _ h => h) d_St_checkIndex_2 ?_
    refine st_calli (np := 3) hC (c_Pr_checkIndex l k n none hk hn) ⟨wl_St_1059, wt_Pr_checkIndex, wc_Pr_checkIndex, wn_Pr⟩ ⟨by decide, by decide, by decide +kernel⟩ ⟨Nat.le_of_ble_eq_true rfl, Nat.le_of_ble_eq_true rfl⟩ hl.1 rfl (rest := []) rfl (Nat.le_of_ble_eq_true rfl) ⟨Nat.zero_le _, Nat.zero_le _⟩ d_St_checkIndex_5 (fun rr hrr => ?_)
    refine lv_pop hx hb d_St_checkIndex_8 rfl ?_
    exact hret _ _ d_St_checkIndex_9
  · refine va_gets hx hb hq sS0 hC.2.2.2.1 (hC.2.2.2.2 _ wf_St_1053) (fun _ h => h) d_St_checkIndex_2 ?_
    refine st_calli (np := 3) hC (c_Pr_checkIndex l k n (some t) hk hn) ⟨wl_St_1059, wt_Pr_checkIndex, wc_Pr_checkIndex, wn_Pr⟩ ⟨by decide, by decide, by decide +kernel⟩ ⟨Nat.le_of_ble_eq_true rfl, Nat.le_of_ble_eq_true rfl⟩ hl.1 rfl (rest := []) rfl (Nat.le_of_ble_eq_true rfl) ⟨Nat.zero_le _, Nat.zero_le _⟩ d_St_checkIndex_5 (fun rr hrr => ?_)
    refine lv_pop hx hb d_St_checkIndex_8 rfl ?_
    exact hret _ _ d_St_checkIndex_9
theorem sl_b : ∀ i, i < 10 → slen.getD i 0 = lK i ∧ slen.getD i 0 < 10 := by decide +kernel
theorem sc_b : ∀ i, i < 10 → ∀ k, k < slen.getD i 0 → (((sbyt.getD i []).getD k 0 &&& 255).toUInt32 % 65536).toInt32 = nI (cK i k) ∧ narrow .char (.int (nI (cK i k))) = .int (nI (cK i k)) := by decide +kernel
set_option maxHeartbeats 400000 in
theorem c_S1_charAt (l : Launch) (adK adV : Nat → Nat) (N0 : Nat) (i k : Nat) (hi : i < 10) (hk : k < slen.getD i 0) : ZSi l adK adV N0 y_S1_charAt b_S1_charAt 2 (some .char) 2 43 [.ref (adV i), .int (nI k)] (fun r => r = nI (cK i k)) := by
  have hsl := sl_b i hi
  have hsc := sc_b i hi k hk
  refine zs_enti (own := R_S1) (by decide +kernel) rfl (Nat.le_of_ble_eq_true rfl) ?_
  intro p e s m args below meth c Q hC hZ hret ls hl
  have hx := hC.1
  have hb := hC.2.1
  replace hl : lv_has ls 2 [(0, .ref (adV i)), (1, .int (nI k))] := hl
  have hT := (hZ.2.1.1 i hi).2.2.2
  refine lv_iload_n hx hb d_S1_charAt_0 rfl (lv_at hl 1 rfl) ?_
  refine lv_aload_n hx hb d_S1_charAt_1 rfl (lv_at hl 0 rfl) ?_
  refine va_tlen hx hb hT sS0 (v := nI (slen.getD i 0)) rfl d_S1_charAt_2 ?_
  refine zs_callSv (np := 2) hC hZ sS0 (fun _ h => h) (c_St_checkIndex l adK adV N0 k (slen.getD i 0) hk (by omega)) ⟨wl_S1_9, wt_St_checkIndex, wc_St_checkIndex, wn_St⟩ ⟨by decide, by decide, by decide +kernel⟩ ⟨Nat.le_of_ble_eq_true rfl, Nat.le_of_ble_eq_true rfl⟩ hl.1 rfl (rest := []) rfl (Nat.le_of_ble_eq_true rfl) ⟨Nat.zero_le _, Nat.zero_le _⟩ d_S1_charAt_3 ?_
  refine lv_aload_n hx hb d_S1_charAt_6 rfl (lv_at hl 0 rfl) ?_
  refine lv_iload_n hx hb d_S1_charAt_7 rfl (lv_at hl 1 rfl) ?_
  refine va_tb hx hb hT sS0 (vp_in_nI hk (by omega)) (v := .int ((sbyt.getD i []).getD k 0)) (by rw [nI_clN (by omega)]) d_S1_charAt_8 ?_
  refine lv_sipush (v := 255) hx hb d_S1_charAt_9 (by decide) ?_
  refine lv_iand hx hb d_S1_charAt_12 ?_
  refine lv_i2c hx hb d_S1_charAt_13 rfl ?_
  refine topi_eq hsc.1 ?_
  exact hret _ _ _ d_S1_charAt_14 hsc.2 rfl
set_option maxHeartbeats 400000 in
theorem c_St_coder (l : Launch) (adK adV : Nat → Nat) (N0 : Nat) (i : Nat) (hi : i < 10) : ZSi l adK adV N0 y_St_coder b_St_coder 1 (some .byte) 0 0 [.ref (adK i)] (fun r => r = 0) := by
  refine zs_enti (own := R_St) (by decide +kernel) rfl (Nat.le_of_ble_eq_true rfl) ?_
  intro p e s m args below meth c Q hC hZ hret ls hl
  have hx := hC.1
  have hb := hC.2.1
  replace hl : lv_has ls 1 [(0, .ref (adK i))] := hl
  refine va_gets hx hb hZ.2.2.2.1 sS0 hC.2.2.2.1 (hC.2.2.2.2 _ wf_St_38) (fun _ h => h) d_St_coder_0 ?_
  refine lv_if_eq (tgt := 13) hx hb d_St_coder_3 (by decide) (fun h1 => absurd h1 (by decide)) (fun h1 => ?_)
  refine lv_aload_n hx hb d_St_coder_6 rfl (lv_at hl 0 rfl) ?_
  refine vk_getf hx hb (hZ.2.1.1 i hi).2.1 sS0 hC.2.2.2.1 (hC.2.2.2.2 _ wf_St_15) (fun _ h => h) d_St_coder_7 ?_
  refine lv_goto (tgt := 14) hx hb d_St_coder_10 (by decide) ?_
  exact hret _ _ _ d_St_coder_14 rfl rfl
set_option maxHeartbeats 400000 in
theorem c_St_isLatin1 (l : Launch) (adK adV : Nat → Nat) (N0 : Nat) (i : Nat) (hi : i < 10) : ZSi l adK adV N0 y_St_isLatin1 b_St_isLatin1 1 (some .boolean) 0 0 [.ref (adK i)] (fun r => r = 1) := by
  refine zs_enti (own := R_St) (by decide +kernel) rfl (Nat.le_of_ble_eq_true rfl) ?_
  intro p e s m args below meth c Q hC hZ hret ls hl
  have hx := hC.1
  have hb := hC.2.1
  replace hl : lv_has ls 1 [(0, .ref (adK i))] := hl
  refine va_gets hx hb hZ.2.2.2.1 sS0 hC.2.2.2.1 (hC.2.2.2.2 _ wf_St_38) (fun _ h => h) d_St_isLatin1_0 ?_
  refine lv_if_eq (tgt := 17) hx hb d_St_isLatin1_3 (by decide) (fun h1 => absurd h1 (by decide)) (fun h1 => ?_)
  refine lv_aload_n hx hb d_St_isLatin1_6 rfl (lv_at hl 0 rfl) ?_
  refine vk_getf hx hb (hZ.2.1.1 i hi).2.1 sS0 hC.2.2.2.1 (hC.2.2.2.2 _ wf_St_15) (fun _ h => h) d_St_isLatin1_7 ?_
  refine lv_if_ne (tgt := 17) hx hb d_St_isLatin1_10 (by decide) (fun h2 => absurd rfl h2) (fun h2 => ?_)
  refine lv_iconst (v := 1) hx hb d_St_isLatin1_13 (by decide) ?_
  refine lv_goto (tgt := 18) hx hb d_St_isLatin1_14 (by decide) ?_
  exact hret _ _ _ d_St_isLatin1_18 rfl rfl
theorem sh_0 : ∀ i, i < 10 → nI (slen.getD i 0) >>> ((0 : Int32) &&& 31) = nI (lK i) := by decide +kernel
set_option maxHeartbeats 400000 in
theorem c_St_length (l : Launch) (adK adV : Nat → Nat) (N0 : Nat) (i : Nat) (hi : i < 10) : ZSi l adK adV N0 y_St_length b_St_length 1 (some .int) 1 20 [.ref (adK i)] (fun r => r = nI (lK i)) := by
  refine zs_enti (own := R_St) (by decide +kernel) rfl (Nat.le_of_ble_eq_true rfl) ?_
  intro p e s m args below meth c Q hC hZ hret ls hl
  have hx := hC.1
  have hb := hC.2.1
  replace hl : lv_has ls 1 [(0, .ref (adK i))] := hl
  refine lv_aload_n hx hb d_St_length_0 rfl (lv_at hl 0 rfl) ?_
  refine vk_getf hx hb (hZ.2.1.1 i hi).2.2.1 sS0 hC.2.2.2.1 (hC.2.2.2.2 _ wf_St_9) (fun _ h => h) d_St_length_1 ?_
  refine va_tlen hx hb (hZ.2.1.1 i hi).2.2.2 sS0 (v := nI (slen.getD i 0)) rfl d_St_length_4 ?_
  refine lv_aload_n hx hb d_St_length_5 rfl (lv_at hl 0 rfl) ?_
  refine zs_callV (np := 0) hC hZ sS0 (fun _ h => h) hi (c_St_coder l adK adV N0 i hi) rfl ⟨wl_St_335, wi_St_coder, ws_St_coder, wc_St_coder, wn_St⟩ ⟨by decide, by decide, by decide +kernel⟩ ⟨Nat.le_of_ble_eq_true rfl, Nat.le_of_ble_eq_true rfl⟩ hl.1 rfl (rest := [.int (nI (slen.getD i 0))]) rfl (Nat.le_of_ble_eq_true rfl) ⟨Nat.zero_le _, Nat.zero_le _⟩ d_St_length_6 (fun rr hrr => ?_)
  subst hrr
  refine lv_ishr hx hb d_St_length_9 ?_
  refine topi_eq (sh_0 i hi) ?_
  exact hret _ _ _ d_St_length_10 rfl rfl
set_option maxHeartbeats 400000 in
theorem c_St_charAt (l : Launch) (adK adV : Nat → Nat) (N0 : Nat) (i k : Nat) (hi : i < 10) (hk : k < lK i) : ZSi l adK adV N0 y_St_charAt b_St_charAt 2 (some .char) 3 64 [.ref (adK i), .int (nI k)] (fun r => r = nI (cK i k)) := by
  have hsl := sl_b i hi
  have hsc := sc_b i hi k (by omega)
  refine zs_enti (own := R_St) (by decide +kernel) rfl (Nat.le_of_ble_eq_true rfl) ?_
  intro p e s m args below meth c Q hC hZ hret ls hl
  have hx := hC.1
  have hb := hC.2.1
  replace hl : lv_has ls 2 [(0, .ref (adK i)), (1, .int (nI k))] := hl
  refine lv_aload_n hx hb d_St_charAt_0 rfl (lv_at hl 0 rfl) ?_
  refine zs_callV (np := 0) hC hZ sS0 (fun _ h => h) hi (c_St_isLatin1 l adK adV N0 i hi) rfl ⟨wl_St_492, wi_St_isLatin1, ws_St_isLatin1, wc_St_isLatin1, wn_St⟩ ⟨by decide, by decide, by decide +kernel⟩ ⟨Nat.le_of_ble_eq_true rfl, Nat.le_of_ble_eq_true rfl⟩ hl.1 rfl (rest := []) rfl (Nat.le_of_ble_eq_true rfl) ⟨Nat.zero_le _, Nat.zero_le _⟩ d_St_charAt_1 (fun rr hrr => ?_)
  subst hrr
  refine lv_if_eq (tgt := 16) hx hb d_St_charAt_4 (by decide) (fun h1 => absurd h1 (by decide)) (fun h1 => ?_)
  refine lv_aload_n hx hb d_St_charAt_7 rfl (lv_at hl 0 rfl) ?_
  refine vk_getf hx hb (hZ.2.1.1 i hi).2.2.1 sS0 hC.2.2.2.1 (hC.2.2.2.2 _ wf_St_9) (fun _ h => h) d_St_charAt_8 ?_
  refine lv_iload_n hx hb d_St_charAt_11 rfl (lv_at hl 1 rfl) ?_
  refine zs_callS (np := 2) hC hZ sS0 (fun _ h => h) (c_S1_charAt l adK adV N0 i k hi (by omega)) ⟨wl_St_495, wt_S1_charAt, wc_S1_charAt, wn_S1⟩ ⟨by decide, by decide, by decide +kernel⟩ ⟨Nat.le_of_ble_eq_true rfl, Nat.le_of_ble_eq_true rfl⟩ hl.1 rfl (rest := []) rfl (Nat.le_of_ble_eq_true rfl) ⟨Nat.zero_le _, Nat.zero_le _⟩ d_St_charAt_12 (fun rr hrr => ?_)
  subst hrr
  exact hret _ _ _ d_St_charAt_15 hsc.2 rfl
set_option maxHeartbeats 400000 in
theorem c_Rd_nameOf (l : Launch) (adK adV : Nat → Nat) (N0 : Nat) (k : Nat) (hk : k < 10) : ZSq l adK adV N0 y_Rd_nameOf b_Rd_nameOf 1 (some (.object "java/lang/String")) 0 0 [.int (nI k)] (fun r => r = some (adK k)) := by
  refine zs_entq (own := R_Rd) (by decide +kernel) rfl (Nat.le_of_ble_eq_true rfl) ?_
  intro p e s m args below meth c Q hC hZ hret ls hl
  have hx := hC.1
  have hb := hC.2.1
  replace hl : lv_has ls 1 [(0, .int (nI k))] := hl
  refine lv_iload_n hx hb d_Rd_nameOf_0 rfl (lv_at hl 0 rfl) ?_
  rcases (show k = 0 ∨ k = 1 ∨ k = 2 ∨ k = 3 ∨ k = 4 ∨ k = 5 ∨ k = 6 ∨ k = 7 ∨ k = 8 ∨ k = 9 by omega) with rfl | rfl | rfl | rfl | rfl | rfl | rfl | rfl | rfl | rfl
  · refine lv_tableIn (tgt := 52) hx hb d_Rd_nameOf_1 (by decide) (by decide) rfl (by decide) ?_
    refine va_ldcS hx hb hC.2.2.2.1 (hZ.2.2.1 0 (by decide)) d_Rd_nameOf_52 ?_
    exact hret _ _ _ d_Rd_nameOf_54 rfl
  · refine lv_tableIn (tgt := 55) hx hb d_Rd_nameOf_1 (by decide) (by decide) rfl (by decide) ?_
    refine va_ldcS hx hb hC.2.2.2.1 (hZ.2.2.1 1 (by decide)) d_Rd_nameOf_55 ?_
    exact hret _ _ _ d_Rd_nameOf_57 rfl
  · refine lv_tableIn (tgt := 58) hx hb d_Rd_nameOf_1 (by decide) (by decide) rfl (by decide) ?_
    refine va_ldcS hx hb hC.2.2.2.1 (hZ.2.2.1 2 (by decide)) d_Rd_nameOf_58 ?_
    exact hret _ _ _ d_Rd_nameOf_60 rfl
  · refine lv_tableIn (tgt := 61) hx hb d_Rd_nameOf_1 (by decide) (by decide) rfl (by decide) ?_
    refine va_ldcS hx hb hC.2.2.2.1 (hZ.2.2.1 3 (by decide)) d_Rd_nameOf_61 ?_
    exact hret _ _ _ d_Rd_nameOf_63 rfl
  · refine lv_tableIn (tgt := 64) hx hb d_Rd_nameOf_1 (by decide) (by decide) rfl (by decide) ?_
    refine va_ldcS hx hb hC.2.2.2.1 (hZ.2.2.1 4 (by decide)) d_Rd_nameOf_64 ?_
    exact hret _ _ _ d_Rd_nameOf_66 rfl
  · refine lv_tableIn (tgt := 67) hx hb d_Rd_nameOf_1 (by decide) (by decide) rfl (by decide) ?_
    refine va_ldcS hx hb hC.2.2.2.1 (hZ.2.2.1 5 (by decide)) d_Rd_nameOf_67 ?_
    exact hret _ _ _ d_Rd_nameOf_69 rfl
  · refine lv_tableIn (tgt := 70) hx hb d_Rd_nameOf_1 (by decide) (by decide) rfl (by decide) ?_
    refine va_ldcS hx hb hC.2.2.2.1 (hZ.2.2.1 6 (by decide)) d_Rd_nameOf_70 ?_
    exact hret _ _ _ d_Rd_nameOf_72 rfl
  · refine lv_tableIn (tgt := 73) hx hb d_Rd_nameOf_1 (by decide) (by decide) rfl (by decide) ?_
    refine va_ldcS hx hb hC.2.2.2.1 (hZ.2.2.1 7 (by decide)) d_Rd_nameOf_73 ?_
    exact hret _ _ _ d_Rd_nameOf_75 rfl
  · refine lv_tableIn (tgt := 76) hx hb d_Rd_nameOf_1 (by decide) (by decide) rfl (by decide) ?_
    refine va_ldcS hx hb hC.2.2.2.1 (hZ.2.2.1 8 (by decide)) d_Rd_nameOf_76 ?_
    exact hret _ _ _ d_Rd_nameOf_78 rfl
  · refine lv_tableOut (tgt := 79) hx hb d_Rd_nameOf_1 (by decide) (by decide) ?_
    refine va_ldcS hx hb hC.2.2.2.1 (hZ.2.2.1 9 (by decide)) d_Rd_nameOf_79 ?_
    exact hret _ _ _ d_Rd_nameOf_81 rfl
