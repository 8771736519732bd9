/-! the class's objects as one world: numbered cells (0 the object, 1 tape, 2 its bytes, 3 reader, 4 row of bodies, 5 flood, 6..8 its rows, 9 row of sheets, 10+2j sheet, its cells, 18+3b body, its rows, its partings), and other cells behind them -/
abbrev CX : Type := (Nat → Nat) × (Nat → Nat) × (Nat → Option Nat) × Nat × va_W
def sK (k : Nat) : Nat := if k < 10 then k else if k < 18 then 10 + k % 2 else 12 + k % 3
def cE (cT : Nat → ClassId) (X : CX) (I : Nat → Int32) (a : Nat → Nat → Int32) (k : Nat) : va_E := match sK k with
  | 0 => .inr (11, [.ref (X.1 1), .ref (X.1 3), .ref (X.1 4), .int (I (10 * k + 3)), .int (I (10 * k + 4)), .ref (X.1 5), .ref (X.1 9)])
  | 1 => .inr (10, [.ref (X.1 2), .int (I (10 * k + 1))])
  | 2 => .inl (cT 3, 160, .inl (a k))
  | 3 => .inr (8, [.ref (X.1 1), .int (I (10 * k + 1)), .int (I (10 * k + 2)), .int (I (10 * k + 3)), .int (I (10 * k + 4)), .int (I (10 * k + 5)), .int (I (10 * k + 6)), .int (I (10 * k + 7))])
  | 4 => .inl (cT 4, 8, .inr (.inr (.inr (.inr X.2.2.1))))
  | 5 => .inr (3, [.ref (X.1 6), .int (I (10 * k + 1)), .ref (X.1 7), .ref (X.1 8), .int (I (10 * k + 4)), .int (I (10 * k + 5)), .int (I (10 * k + 6))])
  | 6 => .inl (cT 0, 225, .inl (a k))
  | 7 => .inl (cT 0, 225, .inl (a k))
  | 8 => .inl (cT 0, 225, .inl (a k))
  | 9 => .inl (cT 5, 4, .inr (.inr (.inr (.inr (fun j => some (X.1 (10 + 2 * j)))))))
  | 10 => .inr (9, [.ref (X.1 (k + 1)), .int (I (10 * k + 1)), .int (I (10 * k + 2))])
  | 11 => .inl (cT 0, 64, .inl (a k))
  | 12 => .inr (1, [.ref (X.2.1 k), .int (I (10 * k + 1)), .ref (X.1 (k + 1)), .int (I (10 * k + 3)), .ref (X.1 (k + 2)), .int (I (10 * k + 5))])
  | 13 => .inl (cT 0, 225, .inl (a k))
  | _ => .inl (cT 0, 5, .inl (a k))
section CES
variable {cT : Nat → ClassId} {X : CX} {I I' : Nat → Int32} {a a' : Nat → Nat → Int32}
theorem sK_S {j : Nat} (h : j < 4) : sK (10 + 2 * j) = 10 := by unfold sK; rw [if_neg (by omega), if_pos (by omega)]; omega
theorem sK_T {j : Nat} (h : j < 4) : sK (10 + 2 * j + 1) = 11 := by unfold sK; rw [if_neg (by omega), if_pos (by omega)]; omega
theorem sK_B (b : Nat) : sK (18 + 3 * b) = 12 := by unfold sK; rw [if_neg (by omega), if_neg (by omega)]; omega
theorem sK_C (b : Nat) : sK (18 + 3 * b + 1) = 13 := by unfold sK; rw [if_neg (by omega), if_neg (by omega)]; omega
theorem sK_D (b : Nat) : sK (18 + 3 * b + 2) = 14 := by unfold sK; rw [if_neg (by omega), if_neg (by omega)]; omega
theorem cE_S {j : Nat} (h : j < 4) : cE cT X I a (10 + 2 * j) = .inr (9, [.ref (X.1 (10 + 2 * j + 1)), .int (I (10 * (10 + 2 * j) + 1)), .int (I (10 * (10 + 2 * j) + 2))]) := by simp only [cE, sK_S h]
theorem cE_T {j : Nat} (h : j < 4) : cE cT X I a (10 + 2 * j + 1) = .inl (cT 0, 64, .inl (a (10 + 2 * j + 1))) := by simp only [cE, sK_T h]
theorem cE_B (b : Nat) : cE cT X I a (18 + 3 * b) = .inr (1, [.ref (X.2.1 (18 + 3 * b)), .int (I (10 * (18 + 3 * b) + 1)), .ref (X.1 (18 + 3 * b + 1)), .int (I (10 * (18 + 3 * b) + 3)), .ref (X.1 (18 + 3 * b + 2)), .int (I (10 * (18 + 3 * b) + 5))]) := by simp only [cE, sK_B]
theorem cE_C (b : Nat) : cE cT X I a (18 + 3 * b + 1) = .inl (cT 0, 225, .inl (a (18 + 3 * b + 1))) := by simp only [cE, sK_C]
theorem cE_D (b : Nat) : cE cT X I a (18 + 3 * b + 2) = .inl (cT 0, 5, .inl (a (18 + 3 * b + 2))) := by simp only [cE, sK_D]
theorem cE_0 : cE cT X I a 0 = .inr (11, [.ref (X.1 1), .ref (X.1 3), .ref (X.1 4), .int (I 3), .int (I 4), .ref (X.1 5), .ref (X.1 9)]) := rfl
theorem cE_1 : cE cT X I a 1 = .inr (10, [.ref (X.1 2), .int (I 11)]) := rfl
theorem cE_2 : cE cT X I a 2 = .inl (cT 3, 160, .inl (a 2)) := rfl
theorem cE_3 : cE cT X I a 3 = .inr (8, [.ref (X.1 1), .int (I 31), .int (I 32), .int (I 33), .int (I 34), .int (I 35), .int (I 36), .int (I 37)]) := rfl
theorem cE_4 : cE cT X I a 4 = .inl (cT 4, 8, .inr (.inr (.inr (.inr X.2.2.1)))) := rfl
theorem cE_5 : cE cT X I a 5 = .inr (3, [.ref (X.1 6), .int (I 51), .ref (X.1 7), .ref (X.1 8), .int (I 54), .int (I 55), .int (I 56)]) := rfl
theorem cE_6 : cE cT X I a 6 = .inl (cT 0, 225, .inl (a 6)) := rfl
theorem cE_7 : cE cT X I a 7 = .inl (cT 0, 225, .inl (a 7)) := rfl
theorem cE_8 : cE cT X I a 8 = .inl (cT 0, 225, .inl (a 8)) := rfl
theorem cE_9 : cE cT X I a 9 = .inl (cT 5, 4, .inr (.inr (.inr (.inr (fun j => some (X.1 (10 + 2 * j))))))) := rfl
theorem cE_B3 (b : Nat) {x : Int32} : cE cT X (upd I (10 * (18 + 3 * b) + 3) x) a (18 + 3 * b) = .inr (1, [.ref (X.2.1 (18 + 3 * b)), .int (I (10 * (18 + 3 * b) + 1)), .ref (X.1 (18 + 3 * b + 1)), .int x, .ref (X.1 (18 + 3 * b + 2)), .int (I (10 * (18 + 3 * b) + 5))]) := by
  rw [cE_B, pk_us, pk_un (j := 10 * (18 + 3 * b) + 1) (by omega), pk_un (j := 10 * (18 + 3 * b) + 5) (by omega)]
theorem cE_B5 (b : Nat) {x : Int32} : cE cT X (upd I (10 * (18 + 3 * b) + 5) x) a (18 + 3 * b) = .inr (1, [.ref (X.2.1 (18 + 3 * b)), .int (I (10 * (18 + 3 * b) + 1)), .ref (X.1 (18 + 3 * b + 1)), .int (I (10 * (18 + 3 * b) + 3)), .ref (X.1 (18 + 3 * b + 2)), .int x]) := by
  rw [cE_B, pk_us, pk_un (j := 10 * (18 + 3 * b) + 1) (by omega), pk_un (j := 10 * (18 + 3 * b) + 3) (by omega)]
theorem cE_S1 {j : Nat} (h : j < 4) {x : Int32} : cE cT X (upd I (10 * (10 + 2 * j) + 1) x) a (10 + 2 * j) = .inr (9, [.ref (X.1 (10 + 2 * j + 1)), .int x, .int (I (10 * (10 + 2 * j) + 2))]) := by
  rw [cE_S h, pk_us, pk_un (j := 10 * (10 + 2 * j) + 2) (by omega)]
theorem cE_S2 {j : Nat} (h : j < 4) {x : Int32} : cE cT X (upd I (10 * (10 + 2 * j) + 2) x) a (10 + 2 * j) = .inr (9, [.ref (X.1 (10 + 2 * j + 1)), .int (I (10 * (10 + 2 * j) + 1)), .int x]) := by
  rw [cE_S h, pk_us, pk_un (j := 10 * (10 + 2 * j) + 1) (by omega)]
theorem cE_Tu {j : Nat} (h : j < 4) (f : Nat → Int32) : cE cT X I (va_up a (10 + 2 * j + 1) f) (10 + 2 * j + 1) = .inl (cT 0, 64, .inl f) := by rw [cE_T h, va_up_self]
theorem cE_Cu (b : Nat) (f : Nat → Int32) : cE cT X I (va_up a (18 + 3 * b + 1) f) (18 + 3 * b + 1) = .inl (cT 0, 225, .inl f) := by rw [cE_C, va_up_self]
theorem cE_Du (b : Nat) (f : Nat → Int32) : cE cT X I (va_up a (18 + 3 * b + 2) f) (18 + 3 * b + 2) = .inl (cT 0, 5, .inl f) := by rw [cE_D, va_up_self]
theorem cE_cong {k : Nat} (h1 : ∀ j, j < 10 → I' (10 * k + j) = I (10 * k + j)) (h2 : a' k = a k) : cE cT X I' a' k = cE cT X I a k := by
  unfold cE
  simp only [h2, h1 1 (by decide), h1 2 (by decide), h1 3 (by decide), h1 4 (by decide), h1 5 (by decide), h1 6 (by decide), h1 7 (by decide)]
def cw (cT : Nat → ClassId) (X : CX) (I : Nat → Int32) (a : Nat → Nat → Int32) : va_W := (List.range (18 + 3 * X.2.2.2.1)).map (fun k => (X.1 k, cE cT X I a k)) ++ X.2.2.2.2
theorem cw_at {k : Nat} (hk : k < 18 + 3 * X.2.2.2.1) : (cw cT X I a)[k]? = some (X.1 k, cE cT X I a k) := by
  unfold cw
  rw [List.getElem?_append_left (by simp; exact hk), List.getElem?_map, List.getElem?_range hk]
  rfl
theorem cw_far (j : Nat) : (cw cT X I a)[18 + 3 * X.2.2.2.1 + j]? = X.2.2.2.2[j]? := by
  unfold cw
  rw [List.getElem?_append_right (by simp)]
  simp
theorem cw_set {k : Nat} (hk : k < 18 + 3 * X.2.2.2.1) (h : ∀ q, q ≠ k → cE cT X I' a' q = cE cT X I a q) {en : va_E} (he : cE cT X I' a' k = en) : (cw cT X I a).set k (X.1 k, en) = cw cT X I' a' := by
  subst he
  unfold cw
  rw [List.set_append_left _ _ (by simp; exact hk)]
  congr 1
  exact map_set_at (fun k => (X.1 k, cE cT X I a k)) (fun k => (X.1 k, cE cT X I' a' k)) _ k (fun j hj => by simp only [h j hj])
theorem cw_seti {k j : Nat} {x : Int32} (hk : k < 18 + 3 * X.2.2.2.1) (hj : j < 10) {en : va_E} (he : cE cT X (upd I (10 * k + j) x) a k = en) : (cw cT X I a).set k (X.1 k, en) = cw cT X (upd I (10 * k + j) x) a :=
  cw_set hk (fun q hq => cE_cong (fun i hi => pk_un (by omega)) rfl) he
theorem cw_seta {k : Nat} {f : Nat → Int32} (hk : k < 18 + 3 * X.2.2.2.1) {en : va_E} (he : cE cT X I (va_up a k f) k = en) : (cw cT X I a).set k (X.1 k, en) = cw cT X I (va_up a k f) :=
  cw_set hk (fun q hq => cE_cong (fun _ _ => rfl) (va_up_ne _ _ hq)) he
end CES
def CA (X : CX) : Nat → Prop := fun q => (∃ k, k < 18 + 3 * X.2.2.2.1 ∧ q = X.1 k) ∨ ∃ en, (q, en) ∈ X.2.2.2.2
def CO (D : va_G) (cT : Nat → ClassId) (A : Nat → Prop) (X : CX) (I : Nat → Int32) (a : Nat → Nat → Int32) (H0 H : Heap) (locs : List Loc) : Prop := va_P D classes (cw cT X I a) H ∧ va_D A (cw cT X I a) ∧ va_S A H0 H locs
abbrev CS : Type := (Nat → Int32) × (Nat → Nat → Int32)
theorem ca_in {D : va_G} {cT : Nat → ClassId} {A : Nat → Prop} {X : CX} {I : Nat → Int32} {a : Nat → Nat → Int32} {H0 H : Heap} {locs : List Loc} (hM : CO D cT A X I a H0 H locs) : ∀ q, CA X q → A q := by
  intro q h
  rcases h with ⟨k, hk, rfl⟩ | ⟨en, h⟩
  · exact hM.2.1.2 k _ (cw_at hk)
  · obtain ⟨j, hj⟩ := List.getElem?_of_mem h
    exact hM.2.1.2 _ (q, en) ((cw_far j).trans hj)
theorem co_self {D : va_G} {cT : Nat → ClassId} {A : Nat → Prop} {X : CX} {I : Nat → Int32} {a : Nat → Nat → Int32} {H0 H : Heap} {locs : List Loc} (hM : CO D cT A X I a H0 H locs) : va_D (CA X) (cw cT X I a) := by
  refine ⟨hM.2.1.1, fun k q hq => ?_⟩
  by_cases hk : k < 18 + 3 * X.2.2.2.1
  · rw [cw_at hk] at hq
    cases hq
    exact Or.inl ⟨k, hk, rfl⟩
  · refine Or.inr ⟨q.2, ?_⟩
    have e : k = 18 + 3 * X.2.2.2.1 + (k - (18 + 3 * X.2.2.2.1)) := by omega
    rw [e, cw_far] at hq
    exact List.mem_of_getElem? hq
-- contracts: one that reads a world w (any list of cells); one that writes the class's world
def rPc (D : va_G) (cT : Nat → ClassId) (w : va_W) (av : List Value) : Array Value → State → Prop := va_Pc av (fun U => va_P D classes w U.heap ∧ KE D cT U)
def RDi (l : Launch) (D : va_G) (cT : Nat → ClassId) (w : va_W) (y : MethodName) (b : ByteArray) (n : Nat) (r : Option FieldType) (fr lo : Nat) (av : List Value) (post : Int32 → Prop) : Prop := Met l y (wm y b n r) (rmOf fr lo) (rPc D cT w av) (vp_Si post) 0 0 (fun _ => False)
def RDq (l : Launch) (D : va_G) (cT : Nat → ClassId) (w : va_W) (y : MethodName) (b : ByteArray) (n : Nat) (r : Option FieldType) (fr lo : Nat) (av : List Value) (post : Option Nat → Prop) : Prop := Met l y (wm y b n r) (rmOf fr lo) (rPc D cT w av) (va_Sq post) 0 0 (fun _ => False)
def cPc (D : va_G) (cT : Nat → ClassId) (X : CX) (I : Nat → Int32) (a : Nat → Nat → Int32) (av : List Value) : Array Value → State → Prop := va_Pc av (fun U => va_P D classes (cw cT X I a) U.heap ∧ KE D cT U ∧ va_D (CA X) (cw cT X I a))
def coB (D : va_G) (cT : Nat → ClassId) (X : CX) (u : CS) (t : State) : Prop := va_P D classes (cw cT X u.1 u.2) t.heap ∧ va_D (CA X) (cw cT X u.1 u.2)
def CMi (l : Launch) (D : va_G) (cT : Nat → ClassId) (X : CX) (y : MethodName) (b : ByteArray) (n : Nat) (r : Option FieldType) (fr lo : Nat) (av : List Value) (I : Nat → Int32) (a : Nat → Nat → Int32) (post : Int32 → CS → Prop) : Prop := Met l y (wm y b n r) (rmOf fr lo) (cPc D cT X I a av) (va_Qi post (coB D cT X) (CA X)) 0 0 (CA X)
def CMv (l : Launch) (D : va_G) (cT : Nat → ClassId) (X : CX) (y : MethodName) (b : ByteArray) (n : Nat) (r : Option FieldType) (fr lo : Nat) (av : List Value) (I : Nat → Int32) (a : Nat → Nat → Int32) (post : CS → Prop) : Prop := Met l y (wm y b n r) (rmOf fr lo) (cPc D cT X I a av) (va_Qv post (coB D cT X) (CA X)) 0 0 (CA X)
def CMq (l : Launch) (D : va_G) (cT : Nat → ClassId) (X : CX) (y : MethodName) (b : ByteArray) (n : Nat) (r : Option FieldType) (fr lo : Nat) (av : List Value) (I : Nat → Int32) (a : Nat → Nat → Int32) (post : Option Nat → CS → Prop) : Prop := Met l y (wm y b n r) (rmOf fr lo) (cPc D cT X I a av) (va_Qq post (coB D cT X) (CA X)) 0 0 (CA X)
theorem rPc_blind {D : va_G} {cT : Nat → ClassId} {w : va_W} {av : List Value} : FrameBlind (rPc D cT w av) := fun _ _ _ _ h => ⟨h.1, h.2.1, h.2.2.blind⟩
theorem cPc_blind {D : va_G} {cT : Nat → ClassId} {X : CX} {I : Nat → Int32} {a : Nat → Nat → Int32} {av : List Value} : FrameBlind (cPc D cT X I a av) := fun _ _ _ _ h => ⟨h.1, h.2.1, h.2.2.1.blind, h.2.2.2⟩
section SC
variable {p : Program} {l : Launch} {e : Env} {RM : Room} {s : State} {m : MethodId} {args : Array Value} {below : List Frame} {meth : Method} {c : Code} {H H0 : Heap} {locs : List Loc} {cells slots : Nat} {Q : State → Prop} {cc : ByteArray} {pc nL : Nat} {ls : Array Slot} {rest : List Value} {own : String}
variable {D : va_G} {cT : Nat → ClassId} {A : Nat → Prop} {X : CX} {I : Nat → Int32} {a : Nat → Nat → Int32} {w : va_W}
-- fields: of a cell in a list of cells, then of the numbered cells
theorem rd_get {C ref : String} {T : u_T} {N ci index q : Nat} {fs : List Value} (hC : CallFix p m c cc nL s args GW own) (hin : ∀ w ∈ u_ws C T N, w ∈ GW) (hK : KE D cT s) (hP : va_P D classes w H) (k : Nat) (he : w[k]? = some (q, .inr (ci, fs))) (hc : classes[ci]? = some (C, T, N)) (j : Nat) (hj : j < N) (hf : Cond.fieldLink own index ref (T j).2.1 (T j).2.2.1 ∈ GW) (h0 : (T j).1 = ref) {v : Value} (hv : fs[j]? = some v) (hdg : decode cc pc = .ok (.getfield index, 3))
    (kk : W p l e RM s m args below meth c H locs cells slots Q (F0 m (pc + 3) ls (v :: rest))) : W p l e RM s m args below meth c H locs cells slots Q (F0 m pc ls (.ref q :: rest)) :=
  va_get hC.1 hC.2.1 hC.2.2.2.2 hin hC.2.2.2.1 hK.1 hP k he hc j hj (hC.2.2.2.2 _ hf) (fun x hx => by rw [h0] at hx; exact hx) hv hdg kk
theorem rd_getN {C ref host : String} {T : u_T} {N ci index q : Nat} {fs : List Value} (hC : CallFix p m c cc nL s args GW own) (hin : ∀ w ∈ u_ws C T N, w ∈ GW) (hK : KE D cT s) (hP : va_P D classes w H) (k : Nat) (he : w[k]? = some (q, .inr (ci, fs))) (hc : classes[ci]? = some (C, T, N)) (j : Nat) (hj : j < N) (hf : Cond.fieldLinkNest own index ref (T j).2.1 (T j).2.2.1 host ∈ NWl) (h0 : (T j).1 = ref) {v : Value} (hv : fs[j]? = some v) (hdg : decode cc pc = .ok (.getfield index, 3))
    (kk : W p l e RM s m args below meth c H locs cells slots Q (F0 m (pc + 3) ls (v :: rest))) : W p l e RM s m args below meth c H locs cells slots Q (F0 m pc ls (.ref q :: rest)) :=
  va_getN hC.1 hC.2.1 hC.2.2.2.2 hin hC.2.2.2.1 hK.1 hP k he hc j hj (va_Nw.use (nw_tabs _ hf) (hK.2.1 _ hf)) (fun x hx => by rw [h0] at hx; exact hx) hv hdg kk
theorem cw_he {k : Nat} (hk : k < 18 + 3 * X.2.2.2.1) {en : va_E} (he : cE cT X I a k = en) : (cw cT X I a)[k]? = some (X.1 k, en) := by rw [cw_at hk, he]
theorem co_put {C ref : String} {T : u_T} {N ci index : Nat} {fs : List Value} (hC : CallFix p m c cc nL s args GW own) (hin : ∀ w ∈ u_ws C T N, w ∈ GW) (ty0 : Nat → FieldType) (hty : ∀ k, k < N → parseFieldDescriptor (T k).2.2.1 = some (ty0 k)) (hnm : ∀ a, a < N → ∀ b, b < N → a ≠ b → (T a).2.1 ≠ (T b).2.1) (hK : KE D cT s) (hM : CO D cT A X I a H0 H locs) (k : Nat) (hk : k < 18 + 3 * X.2.2.2.1) (he : cE cT X I a k = .inr (ci, fs)) (hc : classes[ci]? = some (C, T, N)) (j : Nat) (hj : j < N) (hf : Cond.fieldLink own index ref (T j).2.1 (T j).2.2.1 ∈ GW) (h0 : (T j).1 = ref) (hfin : (T j).2.2.2 = false) {ty : FieldType} (hd : parseFieldDescriptor (T j).2.2.1 = some ty) {x : Int32} (hn : narrow ty (.int x) = .int x) (hfit : fits ty (.int x) = true) (hl : j < fs.length) (h10 : j < 10) (he2 : cE cT X (upd I (10 * k + j) x) a k = .inr (ci, fs.set j (.int x))) (hdg : decode cc pc = .ok (.putfield index, 3))
    (kk : ∀ (H1 : Heap) (locs1 : List Loc), CO D cT A X (upd I (10 * k + j) x) a H0 H1 locs1 → W p l e RM s m args below meth c H1 locs1 cells slots Q (F0 m (pc + 3) ls rest)) : W p l e RM s m args below meth c H locs cells slots Q (F0 m pc ls (.int x :: .ref (X.1 k) :: rest)) :=
  va_put hC.1 hC.2.1 hC.2.2.2.2 hin ty0 hty hnm hC.2.2.2.1 hK.1 hM.1 hM.2.1 hM.2.2 k (cw_he hk he) hc j hj (hC.2.2.2.2 _ hf) (fun y hy => by rw [h0] at hy; exact hy) hfin hd hn hfit hl hdg (fun H1 locs1 hP hD hS => by
    rw [cw_seti hk h10 he2] at hP hD
    exact kk H1 locs1 ⟨hP, hD, hS⟩)
theorem vz_in {x : Int32} (h : x = 0 ∨ x = 1) : narrow .boolean (.int x) = .int x ∧ fits .boolean (.int x) = true := by rcases h with rfl | rfl <;> exact ⟨rfl, rfl⟩
-- rows of numbers
theorem rd_iald {n q : Nat} {f : Nat → Int32} (hC : CallFix p m c cc nL s args GW own) (hK : KE D cT s) (hP : va_P D classes w H) (k : Nat) (he : w[k]? = some (q, .inl (cT 0, n, .inl f))) (jj : Nat) {i : Int32} (hj : i = nI jj) (hlt : jj < n) (hn : n < 2 ^ 31) {v : Int32} (hv : f jj = v) (hdg : decode cc pc = .ok (.iaload, 1))
    (kk : W p l e RM s m args below meth c H locs cells slots Q (F0 m (pc + 1) ls (.int v :: rest))) : W p l e RM s m args below meth c H locs cells slots Q (F0 m pc ls (.int i :: .ref q :: rest)) := by
  subst hj hv
  have ec := nI_clamp (n := jj) (by omega)
  refine va_iald hC.1 hC.2.1 hK.1 hP k 0 he rfl (vp_in_nI hlt hn) hdg ?_
  rw [ec]
  exact kk
theorem rd_bald {n q : Nat} {f : Nat → Int32} (hC : CallFix p m c cc nL s args GW own) (hK : KE D cT s) (hP : va_P D classes w H) (k : Nat) (he : w[k]? = some (q, .inl (cT 3, n, .inl f))) (jj : Nat) {i : Int32} (hj : i = nI jj) (hlt : jj < n) (hn : n < 2 ^ 31) {v : Int32} (hv : f jj = v) (hdg : decode cc pc = .ok (.baload, 1))
    (kk : W p l e RM s m args below meth c H locs cells slots Q (F0 m (pc + 1) ls (.int v :: rest))) : W p l e RM s m args below meth c H locs cells slots Q (F0 m pc ls (.int i :: .ref q :: rest)) := by
  subst hj hv
  have ec := nI_clamp (n := jj) (by omega)
  refine va_bald hC.1 hC.2.1 hK.1 hP k 3 he rfl (vp_in_nI hlt hn) hdg ?_
  rw [ec]
  exact kk
theorem rd_aald {n q : Nat} {C : String} {f : Nat → Option Nat} (hC : CallFix p m c cc nL s args GW own) (hK : KE D cT s) (hP : va_P D classes w H) (t k : Nat) (he : w[k]? = some (q, .inl (cT t, n, .inr (.inr (.inr (.inr f)))))) (ht : (tysL cT)[t]? = some (cT t, .object C)) (jj : Nat) {i : Int32} (hj : i = nI jj) (hlt : jj < n) (hn : n < 2 ^ 31) {v : Value} (hv : va_rf (f jj) = v) (hdg : decode cc pc = .ok (.aaload, 1))
    (kk : W p l e RM s m args below meth c H locs cells slots Q (F0 m (pc + 1) ls (v :: rest))) : W p l e RM s m args below meth c H locs cells slots Q (F0 m pc ls (.int i :: .ref q :: rest)) := by
  subst hj hv
  have ec := nI_clamp (n := jj) (by omega)
  refine va_aldq hC.1 hC.2.1 hK.1 hP k t he ht (vp_in_nI hlt hn) hdg ?_
  rw [ec]
  exact kk
theorem co_iast {n : Nat} (hC : CallFix p m c cc nL s args GW own) (hK : KE D cT s) (hM : CO D cT A X I a H0 H locs) (k : Nat) (hk : k < 18 + 3 * X.2.2.2.1) (he : ∀ f, cE cT X I (va_up a k f) k = .inl (cT 0, n, .inl f)) (jj : Nat) {i x : Int32} (hj : i = nI jj) (hlt : jj < n) (hn : n < 2 ^ 31) (hdg : decode cc pc = .ok (.iastore, 1))
    (kk : ∀ (H1 : Heap) (locs1 : List Loc), CO D cT A X I (va_up a k (upd (a k) jj x)) H0 H1 locs1 → W p l e RM s m args below meth c H1 locs1 cells slots Q (F0 m (pc + 1) ls rest)) : W p l e RM s m args below meth c H locs cells slots Q (F0 m pc ls (.int x :: .int i :: .ref (X.1 k) :: rest)) := by
  subst hj
  have ec := nI_clamp (n := jj) (by omega)
  have h0 : va_up a k (a k) = a := by funext q; by_cases hq : q = k <;> simp [va_up, hq]
  have he0 := he (a k)
  rw [h0] at he0
  refine va_iast hC.1 hC.2.1 hK.1 hM.1 hM.2.1 hM.2.2 k 0 (cw_he hk he0) rfl (vp_in_nI hlt hn) hdg (fun H1 locs1 hP hD hS => ?_)
  rw [ec, cw_seta hk (he _)] at hP hD
  exact kk H1 locs1 ⟨hP, hD, hS⟩
theorem co_bast {n : Nat} (hC : CallFix p m c cc nL s args GW own) (hK : KE D cT s) (hM : CO D cT A X I a H0 H locs) (k : Nat) (hk : k < 18 + 3 * X.2.2.2.1) (he : ∀ f, cE cT X I (va_up a k f) k = .inl (cT 3, n, .inl f)) (jj : Nat) {i x : Int32} (hj : i = nI jj) (hlt : jj < n) (hn : n < 2 ^ 31) (hx8 : vp_nar .byte x = x) (hdg : decode cc pc = .ok (.bastore, 1))
    (kk : ∀ (H1 : Heap) (locs1 : List Loc), CO D cT A X I (va_up a k (upd (a k) jj x)) H0 H1 locs1 → W p l e RM s m args below meth c H1 locs1 cells slots Q (F0 m (pc + 1) ls rest)) : W p l e RM s m args below meth c H locs cells slots Q (F0 m pc ls (.int x :: .int i :: .ref (X.1 k) :: rest)) := by
  subst hj
  have ec := nI_clamp (n := jj) (by omega)
  have h0 : va_up a k (a k) = a := by funext q; by_cases hq : q = k <;> simp [va_up, hq]
  have he0 := he (a k)
  rw [h0] at he0
  refine va_bast hC.1 hC.2.1 hK.1 hM.1 hM.2.1 hM.2.2 k 3 (cw_he hk he0) rfl (vp_in_nI hlt hn) hdg (fun H1 locs1 hP hD hS => ?_)
  rw [hx8, ec, cw_seta hk (he _)] at hP hD
  exact kk H1 locs1 ⟨hP, hD, hS⟩
-- entries
theorem rd_enti {y : MethodName} {b : ByteArray} {n : Nat} {fr lo : Nat} {av : List Value} {post : Int32 → Prop} (hy : plainName y.cls = true) (ho : y.cls = own) (hlen : (lg_sl av).length ≤ n)
    (body : ∀ (p : Program) (e : Env) (s : State) (m : MethodId) (args : Array Value) (below : List Frame) (meth : Method) (c : Code) (Q : State → Prop), CallFix p m c b n s args GW own → KE D cT s → va_P D classes w s.heap → (∀ (pc : Nat) (ls : Array Slot) (v : Int32), decode b pc = .ok (.ireturn, 1) → post v → W p l e (rmOf fr lo) s m args below meth c s.heap [] 0 0 Q (F0 m pc ls [.int v])) → ∀ ls : Array Slot, lv_has ls n (lv_args 0 av) →
      W p l e (rmOf fr lo) s m args below meth c s.heap [] 0 0 Q (F0 m 0 ls [])) : RDi l D cT w y b n (some .int) fr lo av post := by
  refine Met.ofW (cc := b) (maxL := n) (ret := some .int) hy rfl ?_
  intro p e s m args below meth c s₁ B hml hv
  obtain ⟨hv, hP, hK⟩ := hv
  subst hv
  have hts := atoms_spec (ws := wm y b n (some .int)) B.pre
  rw [lg_entry_eq]
  exact body p e s m _ below meth c _ ⟨B.exec, B.bytes, hml, by rw [← ho]; exact findClass_of_methodNamed B.named, fun w h => hts w (List.mem_cons_of_mem _ h)⟩ hK hP (fun pc ls v hdg hp => W.iret B.exec B.bytes B.returns (fun t ht _ => ⟨v, rfl, hp, ht⟩) (fun _ h => by cases h) hdg) _ (lv_entry _ hlen)
theorem rd_entz {y : MethodName} {b : ByteArray} {n : Nat} {fr lo : Nat} {av : List Value} {post : Int32 → Prop} (hy : plainName y.cls = true) (ho : y.cls = own) (hlen : (lg_sl av).length ≤ n)
    (body : ∀ (p : Program) (e : Env) (s : State) (m : MethodId) (args : Array Value) (below : List Frame) (meth : Method) (c : Code) (Q : State → Prop), CallFix p m c b n s args GW own → KE D cT s → va_P D classes w s.heap → (∀ (pc : Nat) (ls : Array Slot) (v : Int32), decode b pc = .ok (.ireturn, 1) → (v = 0 ∨ v = 1) → post v → W p l e (rmOf fr lo) s m args below meth c s.heap [] 0 0 Q (F0 m pc ls [.int v])) → ∀ ls : Array Slot, lv_has ls n (lv_args 0 av) →
      W p l e (rmOf fr lo) s m args below meth c s.heap [] 0 0 Q (F0 m 0 ls [])) : RDi l D cT w y b n (some .boolean) fr lo av post := by
  refine Met.ofW (cc := b) (maxL := n) (ret := some .boolean) hy rfl ?_
  intro p e s m args below meth c s₁ B hml hv
  obtain ⟨hv, hP, hK⟩ := hv
  subst hv
  have hts := atoms_spec (ws := wm y b n (some .boolean)) B.pre
  rw [lg_entry_eq]
  exact body p e s m _ below meth c _ ⟨B.exec, B.bytes, hml, by rw [← ho]; exact findClass_of_methodNamed B.named, fun w h => hts w (List.mem_cons_of_mem _ h)⟩ hK hP (fun pc ls v hdg hz hp => W.zret B.exec B.bytes B.returns (by rcases hz with rfl | rfl <;> rfl) (fun t ht _ => ⟨v, rfl, hp, ht⟩) (fun _ h => by cases h) hdg) _ (lv_entry _ hlen)
theorem rd_entq {y : MethodName} {b : ByteArray} {n : Nat} {fr lo : Nat} {av : List Value} {post : Option Nat → Prop} {C : String} (hy : plainName y.cls = true) (ho : y.cls = own) (hlen : (lg_sl av).length ≤ n)
    (body : ∀ (p : Program) (e : Env) (s : State) (m : MethodId) (args : Array Value) (below : List Frame) (meth : Method) (c : Code) (Q : State → Prop), CallFix p m c b n s args GW own → KE D cT s → va_P D classes w s.heap → (∀ (pc : Nat) (ls : Array Slot) (v : Value) (o : Option Nat), decode b pc = .ok (.areturn, 1) → va_rf o = v → post o → W p l e (rmOf fr lo) s m args below meth c s.heap [] 0 0 Q (F0 m pc ls [v])) → ∀ ls : Array Slot, lv_has ls n (lv_args 0 av) →
      W p l e (rmOf fr lo) s m args below meth c s.heap [] 0 0 Q (F0 m 0 ls [])) : RDq l D cT w y b n (some (.object C)) fr lo av post := by
  refine Met.ofW (cc := b) (maxL := n) (ret := some (.object C)) hy rfl ?_
  intro p e s m args below meth c s₁ B hml hv
  obtain ⟨hv, hP, hK⟩ := hv
  subst hv
  have hts := atoms_spec (ws := wm y b n (some (.object C))) B.pre
  rw [lg_entry_eq]
  exact body p e s m _ below meth c _ ⟨B.exec, B.bytes, hml, by rw [← ho]; exact findClass_of_methodNamed B.named, fun w h => hts w (List.mem_cons_of_mem _ h)⟩ hK hP (fun pc ls v o hdg hv hp => by
    subst hv
    exact W.aret B.exec B.bytes B.returns (Or.inl ⟨_, rfl⟩) (va_rf_or o) (fun t ht _ => ⟨o, rfl, hp, ht⟩) (fun _ h => by cases h) hdg) _ (lv_entry _ hlen)
theorem co_enti {y : MethodName} {b : ByteArray} {n : Nat} {fr lo : Nat} {av : List Value} {post : Int32 → CS → Prop} (hy : plainName y.cls = true) (ho : y.cls = own) (hlen : (lg_sl av).length ≤ n)
    (body : ∀ (p : Program) (e : Env) (s : State) (m : MethodId) (args : Array Value) (below : List Frame) (meth : Method) (c : Code) (Q : State → Prop), CallFix p m c b n s args GW own → KE D cT s → CO D cT (CA X) X I a s.heap s.heap [] → (∀ (pc : Nat) (ls : Array Slot) (v : Int32) (I : Nat → Int32) (a : Nat → Nat → Int32) (H : Heap) (locs : List Loc), decode b pc = .ok (.ireturn, 1) → CO D cT (CA X) X I a s.heap H locs → post v (I, a) → W p l e (rmOf fr lo) s m args below meth c H locs 0 0 Q (F0 m pc ls [.int v])) → ∀ ls : Array Slot, lv_has ls n (lv_args 0 av) →
      W p l e (rmOf fr lo) s m args below meth c s.heap [] 0 0 Q (F0 m 0 ls [])) : CMi l D cT X y b n (some .int) fr lo av I a post := by
  refine Met.ofW (cc := b) (maxL := n) (ret := some .int) hy rfl ?_
  intro p e s m args below meth c s₁ B hml hv
  obtain ⟨hv, hP, hK, hD⟩ := hv
  subst hv
  have hts := atoms_spec (ws := wm y b n (some .int)) B.pre
  rw [lg_entry_eq]
  exact body p e s m _ below meth c _ ⟨B.exec, B.bytes, hml, by rw [← ho]; exact findClass_of_methodNamed B.named, fun w h => hts w (List.mem_cons_of_mem _ h)⟩ hK ⟨hP, hD, va_S.rf⟩ (fun pc ls v I a H locs hdg hM hp => W.iret B.exec B.bytes B.returns (fun t ht _ => ⟨⟨v, (I, a), rfl, hp, by rw [ht]; exact hM.1, hM.2.1⟩, hM.2.2.F ht⟩) hM.2.2.2.2 hdg) _ (lv_entry _ hlen)
theorem co_entz {y : MethodName} {b : ByteArray} {n : Nat} {fr lo : Nat} {av : List Value} {post : Int32 → CS → Prop} (hy : plainName y.cls = true) (ho : y.cls = own) (hlen : (lg_sl av).length ≤ n)
    (body : ∀ (p : Program) (e : Env) (s : State) (m : MethodId) (args : Array Value) (below : List Frame) (meth : Method) (c : Code) (Q : State → Prop), CallFix p m c b n s args GW own → KE D cT s → CO D cT (CA X) X I a s.heap s.heap [] → (∀ (pc : Nat) (ls : Array Slot) (v : Int32) (I : Nat → Int32) (a : Nat → Nat → Int32) (H : Heap) (locs : List Loc), decode b pc = .ok (.ireturn, 1) → (v = 0 ∨ v = 1) → CO D cT (CA X) X I a s.heap H locs → post v (I, a) → W p l e (rmOf fr lo) s m args below meth c H locs 0 0 Q (F0 m pc ls [.int v])) → ∀ ls : Array Slot, lv_has ls n (lv_args 0 av) →
      W p l e (rmOf fr lo) s m args below meth c s.heap [] 0 0 Q (F0 m 0 ls [])) : CMi l D cT X y b n (some .boolean) fr lo av I a post := by
  refine Met.ofW (cc := b) (maxL := n) (ret := some .boolean) hy rfl ?_
  intro p e s m args below meth c s₁ B hml hv
  obtain ⟨hv, hP, hK, hD⟩ := hv
  subst hv
  have hts := atoms_spec (ws := wm y b n (some .boolean)) B.pre
  rw [lg_entry_eq]
  exact body p e s m _ below meth c _ ⟨B.exec, B.bytes, hml, by rw [← ho]; exact findClass_of_methodNamed B.named, fun w h => hts w (List.mem_cons_of_mem _ h)⟩ hK ⟨hP, hD, va_S.rf⟩ (fun pc ls v I a H locs hdg hz hM hp => W.zret B.exec B.bytes B.returns (by rcases hz with rfl | rfl <;> rfl) (fun t ht _ => ⟨⟨v, (I, a), rfl, hp, by rw [ht]; exact hM.1, hM.2.1⟩, hM.2.2.F ht⟩) hM.2.2.2.2 hdg) _ (lv_entry _ hlen)
theorem co_entv {y : MethodName} {b : ByteArray} {n : Nat} {fr lo : Nat} {av : List Value} {post : CS → Prop} (hy : plainName y.cls = true) (ho : y.cls = own) (hlen : (lg_sl av).length ≤ n)
    (body : ∀ (p : Program) (e : Env) (s : State) (m : MethodId) (args : Array Value) (below : List Frame) (meth : Method) (c : Code) (Q : State → Prop), CallFix p m c b n s args GW own → KE D cT s → CO D cT (CA X) X I a s.heap s.heap [] → (∀ (pc : Nat) (ls : Array Slot) (I : Nat → Int32) (a : Nat → Nat → Int32) (H : Heap) (locs : List Loc), decode b pc = .ok (.return_, 1) → CO D cT (CA X) X I a s.heap H locs → post (I, a) → W p l e (rmOf fr lo) s m args below meth c H locs 0 0 Q (F0 m pc ls [])) → ∀ ls : Array Slot, lv_has ls n (lv_args 0 av) →
      W p l e (rmOf fr lo) s m args below meth c s.heap [] 0 0 Q (F0 m 0 ls [])) : CMv l D cT X y b n none fr lo av I a post := by
  refine Met.ofW (cc := b) (maxL := n) (ret := none) hy rfl ?_
  intro p e s m args below meth c s₁ B hml hv
  obtain ⟨hv, hP, hK, hD⟩ := hv
  subst hv
  have hts := atoms_spec (ws := wm y b n none) B.pre
  rw [lg_entry_eq]
  exact body p e s m _ below meth c _ ⟨B.exec, B.bytes, hml, by rw [← ho]; exact findClass_of_methodNamed B.named, fun w h => hts w (List.mem_cons_of_mem _ h)⟩ hK ⟨hP, hD, va_S.rf⟩ (fun pc ls I a H locs hdg hM hp => W.vret B.exec B.bytes B.returns (fun t ht _ => ⟨⟨(I, a), rfl, hp, by rw [ht]; exact hM.1, hM.2.1⟩, hM.2.2.F ht⟩) hM.2.2.2.2 hdg) _ (lv_entry _ hlen)
theorem co_entq {y : MethodName} {b : ByteArray} {n : Nat} {fr lo : Nat} {av : List Value} {post : Option Nat → CS → Prop} {C : String} (hy : plainName y.cls = true) (ho : y.cls = own) (hlen : (lg_sl av).length ≤ n)
    (body : ∀ (p : Program) (e : Env) (s : State) (m : MethodId) (args : Array Value) (below : List Frame) (meth : Method) (c : Code) (Q : State → Prop), CallFix p m c b n s args GW own → KE D cT s → CO D cT (CA X) X I a s.heap s.heap [] → (∀ (pc : Nat) (ls : Array Slot) (v : Value) (o : Option Nat) (I : Nat → Int32) (a : Nat → Nat → Int32) (H : Heap) (locs : List Loc), decode b pc = .ok (.areturn, 1) → va_rf o = v → CO D cT (CA X) X I a s.heap H locs → post o (I, a) → W p l e (rmOf fr lo) s m args below meth c H locs 0 0 Q (F0 m pc ls [v])) → ∀ ls : Array Slot, lv_has ls n (lv_args 0 av) →
      W p l e (rmOf fr lo) s m args below meth c s.heap [] 0 0 Q (F0 m 0 ls [])) : CMq l D cT X y b n (some (.object C)) fr lo av I a post := by
  refine Met.ofW (cc := b) (maxL := n) (ret := some (.object C)) hy rfl ?_
  intro p e s m args below meth c s₁ B hml hv
  obtain ⟨hv, hP, hK, hD⟩ := hv
  subst hv
  have hts := atoms_spec (ws := wm y b n (some (.object C))) B.pre
  rw [lg_entry_eq]
  exact body p e s m _ below meth c _ ⟨B.exec, B.bytes, hml, by rw [← ho]; exact findClass_of_methodNamed B.named, fun w h => hts w (List.mem_cons_of_mem _ h)⟩ hK ⟨hP, hD, va_S.rf⟩ (fun pc ls v o I a H locs hdg hv hM hp => by
    subst hv
    exact W.aret B.exec B.bytes B.returns (Or.inl ⟨_, rfl⟩) (va_rf_or o) (fun t ht _ => ⟨⟨o, (I, a), rfl, hp, by rw [ht]; exact hM.1, hM.2.1⟩, hM.2.2.F ht⟩) hM.2.2.2.2 hdg) _ (lv_entry _ hlen)
-- calls
theorem st_calliN {y : MethodName} {b : ByteArray} {n np index fr lo : Nat} {r : Option FieldType} {host : String} {av st : List Value} {post : Int32 → Prop} (hC : CallFix p m c cc nL s args GW own) (hK : KE D cT s) (hm : SMi l y b n r fr lo av post) (hw : Cond.methodLinkNest own index y host ∈ NWl ∧ Cond.static y ∈ GW ∧ Cond.code y b n r ∈ GW ∧ Cond.initialized y.cls ∈ GW) (hd : y.cls ≠ "java/lang/invoke/MethodHandle" ∧ y.cls ≠ "java/lang/invoke/VarHandle" ∧ (parseMethodDescriptor y.desc).map (fun d => d.parameters.length) = some np) (hR : fr + 1 ≤ RM.frames ∧ 8 + (n + 11) + lo ≤ RM.locals) (hsz : ls.size = nL) (hn : av.length = np) (hst : st = av.reverse ++ rest) (hcat : (rest.map fun v => v.category).sum ≤ 8) (hf : cells ≤ RM.cells ∧ slots ≤ RM.slots) (hdg : decode cc pc = .ok (.invokestatic index, 3))
    (kk : ∀ r : Int32, post r → W p l e RM s m args below meth c H locs cells slots Q (F0 m (pc + 3) ls (.int r :: rest))) : W p l e RM s m args below meth c H locs cells slots Q (F0 m pc ls st) :=
  vp_callSi (va_runSN (As := av) (rest := rest) (host := host) hC hm ⟨va_cnB np hC.2.2.2.2 (gm hw.2.2.1) rfl rfl rfl (hK.2.1 _ hw.1) (hC.2.2.2.2 _ hw.2.2.2) hd hR, hC.2.2.2.2 _ hw.2.1, trivial⟩ ⟨fun _ _ _ _ h => h, fun _ _ _ => rfl⟩ rfl hn hsz hst (lv_room hcat) hdg hf).run kk
theorem rd_callS {y : MethodName} {b : ByteArray} {n np index fr lo : Nat} {r : Option FieldType} {av st : List Value} {post : Int32 → Prop} (hC : CallFix p m c cc nL s args GW own) (hK : KE D cT s) (hP : va_P D classes w H) (hm : RDi l D cT w y b n r fr lo av post) (hw : Cond.methodLink own index y ∈ GW ∧ Cond.static y ∈ GW ∧ Cond.code y b n r ∈ GW ∧ Cond.initialized y.cls ∈ GW) (hd : y.cls ≠ "java/lang/invoke/MethodHandle" ∧ y.cls ≠ "java/lang/invoke/VarHandle" ∧ (parseMethodDescriptor y.desc).map (fun d => d.parameters.length) = some np) (hR : fr + 1 ≤ RM.frames ∧ 8 + (n + 11) + lo ≤ RM.locals) (hsz : ls.size = nL) (hn : av.length = np) (hst : st = av.reverse ++ rest) (hcat : (rest.map fun v => v.category).sum ≤ 8) (hf : cells ≤ RM.cells ∧ slots ≤ RM.slots) (hdg : decode cc pc = .ok (.invokestatic index, 3))
    (kk : ∀ r : Int32, post r → W p l e RM s m args below meth c H locs cells slots Q (F0 m (pc + 3) ls (.int r :: rest))) : W p l e RM s m args below meth c H locs cells slots Q (F0 m pc ls st) :=
  vp_callSi (W.runS (As := av) (rest := rest) hC hm (cw_S hC.2.2.2.2 hw hd hR) ⟨rPc_blind, fun U hU hW => ⟨rfl, by rw [hU]; exact hP, hK.moved hW⟩⟩ rfl hn hsz hst (lv_room hcat) hdg hf) kk
theorem rd_call {y : MethodName} {b : ByteArray} {n np index fr lo ci k q : Nat} {r : Option FieldType} {av st fs : List Value} {vc : vw_C} {post : Int32 → Prop} (hC : CallFix p m c cc nL s args GW own) (hK : KE D cT s) (hP : va_P D classes w H) (he : w[k]? = some (q, .inr (ci, fs))) (hc : classes[ci]? = some vc) (hm : RDi l D cT w y b n r fr lo (.ref q :: av) post) (hy : y.cls = vc.1) (hw : Cond.methodLink own index y ∈ GW ∧ Cond.instanceMethod y ∈ GW ∧ Cond.selects y.cls y y ∈ GW ∧ Cond.code y b n r ∈ GW ∧ Cond.initialized y.cls ∈ GW) (hd : y.cls ≠ "java/lang/invoke/MethodHandle" ∧ y.cls ≠ "java/lang/invoke/VarHandle" ∧ (parseMethodDescriptor y.desc).map (fun d => d.parameters.length) = some np) (hR : fr + 1 ≤ RM.frames ∧ 8 + (n + 11) + lo ≤ RM.locals) (hsz : ls.size = nL) (hn : av.length = np) (hst : st = av.reverse ++ .ref q :: rest) (hcat : (rest.map fun v => v.category).sum ≤ 8) (hf : cells ≤ RM.cells ∧ slots ≤ RM.slots) (hdg : decode cc pc = .ok (.invokevirtual index, 3))
    (kk : ∀ r : Int32, post r → W p l e RM s m args below meth c H locs cells slots Q (F0 m (pc + 3) ls (.int r :: rest))) : W p l e RM s m args below meth c H locs cells slots Q (F0 m pc ls st) :=
  vp_callSi (W.runV (As := av) (rest := rest) hC hm (cw_V hC.2.2.2.2 hw hd hR) ⟨rPc_blind, by rw [hy]; exact va_recv hK.1 hP hc he, fun U hU hW => ⟨rfl, by rw [hU]; exact hP, hK.moved hW⟩⟩ rfl hn hsz hst (lv_room hcat) hdg hf) kk
theorem rd_callq {y : MethodName} {b : ByteArray} {n np index fr lo ci k q : Nat} {r : Option FieldType} {av st fs : List Value} {vc : vw_C} {post : Option Nat → Prop} (hC : CallFix p m c cc nL s args GW own) (hK : KE D cT s) (hP : va_P D classes w H) (he : w[k]? = some (q, .inr (ci, fs))) (hc : classes[ci]? = some vc) (hm : RDq l D cT w y b n r fr lo (.ref q :: av) post) (hy : y.cls = vc.1) (hw : Cond.methodLink own index y ∈ GW ∧ Cond.instanceMethod y ∈ GW ∧ Cond.selects y.cls y y ∈ GW ∧ Cond.code y b n r ∈ GW ∧ Cond.initialized y.cls ∈ GW) (hd : y.cls ≠ "java/lang/invoke/MethodHandle" ∧ y.cls ≠ "java/lang/invoke/VarHandle" ∧ (parseMethodDescriptor y.desc).map (fun d => d.parameters.length) = some np) (hR : fr + 1 ≤ RM.frames ∧ 8 + (n + 11) + lo ≤ RM.locals) (hsz : ls.size = nL) (hn : av.length = np) (hst : st = av.reverse ++ .ref q :: rest) (hcat : (rest.map fun v => v.category).sum ≤ 8) (hf : cells ≤ RM.cells ∧ slots ≤ RM.slots) (hdg : decode cc pc = .ok (.invokevirtual index, 3))
    (kk : ∀ r : Option Nat, post r → W p l e RM s m args below meth c H locs cells slots Q (F0 m (pc + 3) ls (va_rf r :: rest))) : W p l e RM s m args below meth c H locs cells slots Q (F0 m pc ls st) :=
  va_csq (W.runV (As := av) (rest := rest) hC hm (cw_V hC.2.2.2.2 hw hd hR) ⟨rPc_blind, by rw [hy]; exact va_recv hK.1 hP hc he, fun U hU hW => ⟨rfl, by rw [hU]; exact hP, hK.moved hW⟩⟩ rfl hn hsz hst (lv_room hcat) hdg hf) kk
theorem rd_abs {x y : MethodName} {b : ByteArray} {n np index fr lo ci k q : Nat} {r : Option FieldType} {av st fs : List Value} {vc : vw_C} {post : Int32 → Prop} (hC : CallFix p m c cc nL s args GW own) (hK : KE D cT s) (hP : va_P D classes w H) (he : w[k]? = some (q, .inr (ci, fs))) (hc : classes[ci]? = some vc) (hm : RDi l D cT w y b n r fr lo (.ref q :: av) post) (hw : Cond.methodLink own index x ∈ GW ∧ Cond.sameMethod x.cls x.cls x.name x.desc ∈ GW ∧ Cond.instanceMethod ⟨x.cls, x.name, x.desc⟩ ∈ GW ∧ Cond.selects vc.1 x y ∈ GW ∧ Cond.instanceMethod y ∈ GW ∧ Cond.initialized y.cls ∈ GW ∧ Cond.code y b n r ∈ GW) (hz : Cond.declares ⟨x.cls, x.name, x.desc⟩ ∈ NWl) (hd : x.cls ≠ "java/lang/invoke/MethodHandle" ∧ x.cls ≠ "java/lang/invoke/VarHandle" ∧ (parseMethodDescriptor x.desc).map (fun d => d.parameters.length) = some np) (hR : fr + 1 ≤ RM.frames ∧ 8 + (n + 11) + lo ≤ RM.locals) (hsz : ls.size = nL) (hn : av.length = np) (hst : st = av.reverse ++ .ref q :: rest) (hcat : (rest.map fun v => v.category).sum ≤ 8) (hf : cells ≤ RM.cells ∧ slots ≤ RM.slots) (hdg : decode cc pc = .ok (.invokevirtual index, 3))
    (kk : ∀ r : Int32, post r → W p l e RM s m args below meth c H locs cells slots Q (F0 m (pc + 3) ls (.int r :: rest))) : W p l e RM s m args below meth c H locs cells slots Q (F0 m pc ls st) := by
  have hT : GoodIn GW (va_wsU own index vc.1 x.cls x y (wm y b n r)) := by
    intro w' hw'
    unfold va_wsU at hw'
    rcases List.mem_append.mp hw' with h | h
    · simp only [List.mem_cons, List.not_mem_nil, or_false] at h
      have hg : w' ∈ GW := by
        rcases h with rfl | rfl | rfl | rfl | rfl | rfl
        all_goals first | exact hw.1 | exact hw.2.1 | exact hw.2.2.1 | exact hw.2.2.2.1 | exact hw.2.2.2.2.1 | exact hw.2.2.2.2.2.1
      exact ⟨hg, gw_good hg⟩
    · exact gm hw.2.2.2.2.2.2 w' h
  exact vp_callSi (va_runU (As := av) (rest := rest) (x := x) (owner := x.cls) (C := vc.1) hC hm (va_cwA np hC.2.2.2.2 hT rfl rfl rfl (hK.2.1 _ hz) hd hR) ⟨rPc_blind, va_recv hK.1 hP hc he, fun U hU hW => ⟨rfl, by rw [hU]; exact hP, hK.moved hW⟩⟩ rfl hn hsz hst (lv_room hcat) hdg hf).run kk
theorem co_calli {y : MethodName} {b : ByteArray} {n np index fr lo ci k : Nat} {r : Option FieldType} {av st fs : List Value} {vc : vw_C} {post : Int32 → CS → Prop} (hC : CallFix p m c cc nL s args GW own) (hK : KE D cT s) (hM : CO D cT A X I a H0 H locs) (hk : k < 18 + 3 * X.2.2.2.1) (he : cE cT X I a k = .inr (ci, fs)) (hc : classes[ci]? = some vc) (hm : CMi l D cT X y b n r fr lo (.ref (X.1 k) :: av) I a post) (hy : y.cls = vc.1) (hw : Cond.methodLink own index y ∈ GW ∧ Cond.instanceMethod y ∈ GW ∧ Cond.selects y.cls y y ∈ GW ∧ Cond.code y b n r ∈ GW ∧ Cond.initialized y.cls ∈ GW) (hd : y.cls ≠ "java/lang/invoke/MethodHandle" ∧ y.cls ≠ "java/lang/invoke/VarHandle" ∧ (parseMethodDescriptor y.desc).map (fun d => d.parameters.length) = some np) (hR : fr + 1 ≤ RM.frames ∧ 8 + (n + 11) + lo ≤ RM.locals) (hsz : ls.size = nL) (hn : av.length = np) (hst : st = av.reverse ++ .ref (X.1 k) :: rest) (hcat : (rest.map fun v => v.category).sum ≤ 8) (hf : cells ≤ RM.cells ∧ slots ≤ RM.slots) (hdg : decode cc pc = .ok (.invokevirtual index, 3))
    (kk : ∀ (r : Int32) (I' : Nat → Int32) (a' : Nat → Nat → Int32) (H1 : Heap) (locs1 : List Loc), post r (I', a') → CO D cT A X I' a' H0 H1 locs1 → W p l e RM s m args below meth c H1 locs1 cells slots Q (F0 m (pc + 3) ls (.int r :: rest))) : W p l e RM s m args below meth c H locs cells slots Q (F0 m pc ls st) :=
  va_calli (va_runV (As := av) (rest := rest) hC hm (cw_V hC.2.2.2.2 hw hd hR) ⟨cPc_blind, by rw [hy]; exact va_recv hK.1 hM.1 hc (cw_he hk he), fun U hU hW => ⟨rfl, by rw [hU]; exact hM.1, hK.moved hW, co_self hM⟩⟩ rfl hn hsz hst (lv_room hcat) hdg hf) hM.2.2 (fun q _ h => ca_in hM q h) (fun q h => ca_in hM q h) (fun r u t H1 locs1 ht hvm hp hB hz hk2 hS => kk r u.1 u.2 H1 locs1 hp ⟨by rw [← ht]; exact hB.1, hB.2.weaken (fun _ q _ h => ca_in hM q.1 h), hS⟩)
theorem co_callv {y : MethodName} {b : ByteArray} {n np index fr lo ci k : Nat} {r : Option FieldType} {av st fs : List Value} {vc : vw_C} {post : CS → Prop} (hC : CallFix p m c cc nL s args GW own) (hK : KE D cT s) (hM : CO D cT A X I a H0 H locs) (hk : k < 18 + 3 * X.2.2.2.1) (he : cE cT X I a k = .inr (ci, fs)) (hc : classes[ci]? = some vc) (hm : CMv l D cT X y b n r fr lo (.ref (X.1 k) :: av) I a post) (hy : y.cls = vc.1) (hw : Cond.methodLink own index y ∈ GW ∧ Cond.instanceMethod y ∈ GW ∧ Cond.selects y.cls y y ∈ GW ∧ Cond.code y b n r ∈ GW ∧ Cond.initialized y.cls ∈ GW) (hd : y.cls ≠ "java/lang/invoke/MethodHandle" ∧ y.cls ≠ "java/lang/invoke/VarHandle" ∧ (parseMethodDescriptor y.desc).map (fun d => d.parameters.length) = some np) (hR : fr + 1 ≤ RM.frames ∧ 8 + (n + 11) + lo ≤ RM.locals) (hsz : ls.size = nL) (hn : av.length = np) (hst : st = av.reverse ++ .ref (X.1 k) :: rest) (hcat : (rest.map fun v => v.category).sum ≤ 8) (hf : cells ≤ RM.cells ∧ slots ≤ RM.slots) (hdg : decode cc pc = .ok (.invokevirtual index, 3))
    (kk : ∀ (I' : Nat → Int32) (a' : Nat → Nat → Int32) (H1 : Heap) (locs1 : List Loc), post (I', a') → CO D cT A X I' a' H0 H1 locs1 → W p l e RM s m args below meth c H1 locs1 cells slots Q (F0 m (pc + 3) ls rest)) : W p l e RM s m args below meth c H locs cells slots Q (F0 m pc ls st) :=
  va_callv (va_runV (As := av) (rest := rest) hC hm (cw_V hC.2.2.2.2 hw hd hR) ⟨cPc_blind, by rw [hy]; exact va_recv hK.1 hM.1 hc (cw_he hk he), fun U hU hW => ⟨rfl, by rw [hU]; exact hM.1, hK.moved hW, co_self hM⟩⟩ rfl hn hsz hst (lv_room hcat) hdg hf) hM.2.2 (fun q _ h => ca_in hM q h) (fun q h => ca_in hM q h) (fun u t H1 locs1 ht hvm hp hB hz hk2 hS => kk u.1 u.2 H1 locs1 hp ⟨by rw [← ht]; exact hB.1, hB.2.weaken (fun _ q _ h => ca_in hM q.1 h), hS⟩)
theorem co_callq {y : MethodName} {b : ByteArray} {n np index fr lo ci k : Nat} {r : Option FieldType} {av st fs : List Value} {vc : vw_C} {post : Option Nat → CS → Prop} (hC : CallFix p m c cc nL s args GW own) (hK : KE D cT s) (hM : CO D cT A X I a H0 H locs) (hk : k < 18 + 3 * X.2.2.2.1) (he : cE cT X I a k = .inr (ci, fs)) (hc : classes[ci]? = some vc) (hm : CMq l D cT X y b n r fr lo (.ref (X.1 k) :: av) I a post) (hy : y.cls = vc.1) (hw : Cond.methodLink own index y ∈ GW ∧ Cond.instanceMethod y ∈ GW ∧ Cond.selects y.cls y y ∈ GW ∧ Cond.code y b n r ∈ GW ∧ Cond.initialized y.cls ∈ GW) (hd : y.cls ≠ "java/lang/invoke/MethodHandle" ∧ y.cls ≠ "java/lang/invoke/VarHandle" ∧ (parseMethodDescriptor y.desc).map (fun d => d.parameters.length) = some np) (hR : fr + 1 ≤ RM.frames ∧ 8 + (n + 11) + lo ≤ RM.locals) (hsz : ls.size = nL) (hn : av.length = np) (hst : st = av.reverse ++ .ref (X.1 k) :: rest) (hcat : (rest.map fun v => v.category).sum ≤ 8) (hf : cells ≤ RM.cells ∧ slots ≤ RM.slots) (hdg : decode cc pc = .ok (.invokevirtual index, 3))
    (kk : ∀ (r : Option Nat) (I' : Nat → Int32) (a' : Nat → Nat → Int32) (H1 : Heap) (locs1 : List Loc), post r (I', a') → CO D cT A X I' a' H0 H1 locs1 → W p l e RM s m args below meth c H1 locs1 cells slots Q (F0 m (pc + 3) ls (va_rf r :: rest))) : W p l e RM s m args below meth c H locs cells slots Q (F0 m pc ls st) :=
  va_callq (va_runV (As := av) (rest := rest) hC hm (cw_V hC.2.2.2.2 hw hd hR) ⟨cPc_blind, by rw [hy]; exact va_recv hK.1 hM.1 hc (cw_he hk he), fun U hU hW => ⟨rfl, by rw [hU]; exact hM.1, hK.moved hW, co_self hM⟩⟩ rfl hn hsz hst (lv_room hcat) hdg hf) hM.2.2 (fun q _ h => ca_in hM q h) (fun q h => ca_in hM q h) (fun r u t H1 locs1 ht hvm hp hB hz hk2 hS => kk r u.1 u.2 H1 locs1 hp ⟨by rw [← ht]; exact hB.1, hB.2.weaken (fun _ q _ h => ca_in hM q.1 h), hS⟩)
end SC
