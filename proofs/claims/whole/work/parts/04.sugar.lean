/-! own rows over the kit: one list of words for every method; the reference's object as one world; calls in one row -/
def wm (y : MethodName) (b : ByteArray) (n : Nat) (r : Option FieldType) : List Cond := Cond.code y b n r :: GW
theorem gw_good {w : Cond} (h : w ∈ GW) : (w.onTables && w.keeps) = true ∨ ∃ ty, w = .arrayClass ty := good_of_word (List.mem_filter.mp h).2
theorem gm {y : MethodName} {b : ByteArray} {n : Nat} {r : Option FieldType} (h : Cond.code y b n r ∈ GW) : GoodIn GW (wm y b n r) := by
  intro w hw
  rcases List.mem_cons.mp hw with e | hw
  · subst e
    exact ⟨h, gw_good h⟩
  · exact ⟨hw, gw_good hw⟩
def tysL (cT : Nat → ClassId) : List (ClassId × FieldType) := [(cT 0, .int), (cT 1, .long), (cT 2, .boolean), (cT 3, .byte), (cT 4, .object "SignSolids$Body"), (cT 5, .object "SignSolids$Sheet")]
def KE (D : va_G) (cT : Nat → ClassId) (U : State) : Prop := va_K D classes (tysL cT) U ∧ (∀ w ∈ NWl, va_Nw w U) ∧ va_AO "SignSolids$Body" U ∧ va_AO "SignSolids$Sheet" U
theorem nw_tabs : ∀ w ∈ NWl, w.onTables = true := by decide +kernel
theorem nw_warm {u U : State} (hW : u.WarmedH U.vm) : ∀ w ∈ NWl, va_Nw w u → va_Nw w U := by
  intro w hw h
  simp only [NWl, List.mem_cons, List.not_mem_nil, or_false] at hw
  rcases hw with rfl | rfl | rfl | rfl | rfl | rfl | rfl | rfl | rfl | rfl | rfl | rfl | rfl | rfl | rfl | rfl | rfl | rfl | rfl | rfl | rfl <;> first | exact va_Nw.warmF hW h | exact va_Nw.warmM hW h | exact va_Nw.warmD hW h
theorem KE.moved {D : va_G} {cT : Nat → ClassId} {u U : State} (hW : u.WarmedH U.vm) (h : KE D cT u) : KE D cT U := ⟨va_K.moved hW.alike h.1, fun w hw => nw_warm hW w hw (h.2.1 w hw), h.2.2.1.moved hW.alike, h.2.2.2.moved hW.alike⟩
theorem KE.blind {D : va_G} {cT : Nat → ClassId} {U : State} {g : JFrame} {mk : MethodId} {a : Array Value} (h : KE D cT U) : KE D cT (U.calling g mk a) := ⟨va_K.moved (u := U) (U := U.calling g mk a) (Vm.Alike.refl U.vm) h.1, fun w hw => va_Nw.same (u := U) (U := U.calling g mk a) (nw_tabs w hw) rfl (h.2.1 w hw), h.2.2.1.moved (U := U.calling g mk a) (Vm.Alike.refl U.vm), h.2.2.2.moved (U := U.calling g mk a) (Vm.Alike.refl U.vm)⟩
-- the reference's object: a field's kind (0 int, 1 long, 2 ints, 3 longs, 4 booleans), a row's length
def mKind (k : Nat) : Nat := ([0, 2, 2, 2, 2, 2, 0, 0, 0, 0, 0, 0, 0, 0, 2, 2, 3, 3, 3, 3, 3, 3, 3, 3, 1, 1, 2, 0, 0, 0, 0, 0, 0, 4, 4, 2, 4, 2, 2, 0, 0, 0, 0, 2, 2, 2] : List Nat).getD k 9
def mLen (k : Nat) : Nat := ([0, 8, 512, 512, 3072, 160, 0, 0, 0, 0, 0, 0, 0, 0, 12, 12, 64, 64, 64, 64, 64, 64, 64, 64, 0, 0, 700, 0, 0, 0, 0, 0, 0, 3375, 3375, 12288, 4096, 3375, 3375, 0, 0, 0, 0, 4, 4, 256] : List Nat).getD k 0
def mArr : List Nat := [1, 2, 3, 4, 5, 14, 15, 16, 17, 18, 19, 20, 21, 22, 23, 26, 33, 34, 35, 36, 37, 38, 43, 44, 45]
def mf (ad : Nat → Nat) (I : Nat → Int32) (J : Nat → Int64) (k : Nat) : Value := if mKind k = 0 then .int (I k) else if mKind k = 1 then .long (J k) else .ref (ad k)
def mFs (ad : Nat → Nat) (I : Nat → Int32) (J : Nat → Int64) : List Value := (List.range 46).map (mf ad I J)
def mE (cT : Nat → ClassId) (a : Nat → Nat → Int32) (g : Nat → Nat → Int64) (k : Nat) : va_E := if mKind k = 3 then .inl (cT 1, mLen k, .inr (.inl (g k))) else .inl (cT (if mKind k = 4 then 2 else 0), mLen k, .inl (a k))
def mw (cT : Nat → ClassId) (ad : Nat → Nat) (I : Nat → Int32) (J : Nat → Int64) (a : Nat → Nat → Int32) (g : Nat → Nat → Int64) : va_W := (ad 46, .inr (12, mFs ad I J)) :: mArr.map (fun k => (ad k, mE cT a g k))
def mPos (k : Nat) : Nat := mArr.idxOf k + 1
def MA (ad : Nat → Nat) : Nat → Prop := fun q => ∃ k, k ≤ 46 ∧ q = ad k
def MO (D : va_G) (cT : Nat → ClassId) (ad : Nat → Nat) (I : Nat → Int32) (J : Nat → Int64) (a : Nat → Nat → Int32) (g : Nat → Nat → Int64) (H0 H : Heap) (locs : List Loc) : Prop := va_P D classes (mw cT ad I J a g) H ∧ va_D (MA ad) (mw cT ad I J a g) ∧ va_S (MA ad) H0 H locs
abbrev MS : Type := (Nat → Int32) × (Nat → Int64) × (Nat → Nat → Int32) × (Nat → Nat → Int64)
theorem mFs_get {ad : Nat → Nat} {I : Nat → Int32} {J : Nat → Int64} {k : Nat} (h : k < 46) : (mFs ad I J)[k]? = some (mf ad I J k) := by
  unfold mFs
  rw [List.getElem?_map, List.getElem?_range h]
  rfl
theorem mFs_len {ad : Nat → Nat} {I : Nat → Int32} {J : Nat → Int64} : (mFs ad I J).length = 46 := by simp [mFs]
theorem map_set_at {α : Type} (F F' : Nat → α) (n k : Nat) (h : ∀ j, j ≠ k → F' j = F j) : ((List.range n).map F).set k (F' k) = (List.range n).map F' := by
  apply List.ext_getElem?
  intro j
  rw [List.getElem?_set]
  by_cases hj : k = j
  · subst hj
    by_cases hl : k < n
    · simp [hl]
    · simp [hl]
  · rw [if_neg hj]
    by_cases hl : j < n
    · simp [hl, h j (fun e => hj e.symm)]
    · simp [hl]
theorem mFs_seti {ad : Nat → Nat} {I : Nat → Int32} {J : Nat → Int64} {k : Nat} (hk : mKind k = 0) (x : Int32) : (mFs ad I J).set k (.int x) = mFs ad (upd I k x) J := by
  have e : (Value.int x) = mf ad (upd I k x) J k := by simp [mf, hk, upd]
  rw [e]
  exact map_set_at _ _ 46 k (fun j hj => by simp [mf, upd, hj])
theorem mFs_setj {ad : Nat → Nat} {I : Nat → Int32} {J : Nat → Int64} {k : Nat} (hk : mKind k = 1) (x : Int64) : (mFs ad I J).set k (.long x) = mFs ad I (vp_updL J k x) := by
  have e : (Value.long x) = mf ad I (vp_updL J k x) k := by simp [mf, hk, vp_updL]
  rw [e]
  exact map_set_at _ _ 46 k (fun j hj => by simp [mf, vp_updL, hj])
theorem mArr_at : ∀ k ∈ mArr, mArr[mArr.idxOf k]? = some k := by decide +kernel
theorem mArr_nd : mArr.Nodup := by decide +kernel
theorem mw_arr {cT : Nat → ClassId} {ad : Nat → Nat} {I : Nat → Int32} {J : Nat → Int64} {a : Nat → Nat → Int32} {g : Nat → Nat → Int64} {k : Nat} (hk : k ∈ mArr) : (mw cT ad I J a g)[mPos k]? = some (ad k, mE cT a g k) := by
  unfold mw mPos
  rw [List.getElem?_cons_succ, List.getElem?_map, mArr_at k hk]
  rfl
theorem map_set_ix {α : Type} (F F' : Nat → α) (k : Nat) (h : ∀ j, j ≠ k → F' j = F j) : ∀ (L : List Nat), k ∈ L → L.Nodup → (L.map F).set (L.idxOf k) (F' k) = L.map F'
  | [], hk, _ => absurd hk List.not_mem_nil
  | x :: L, hk, hn => by
    have hn2 := List.nodup_cons.mp hn
    by_cases hx : x = k
    · subst hx
      have e : ∀ j ∈ L, F' j = F j := fun j hj => h j (fun e => hn2.1 (by rw [← e]; exact hj))
      simp [List.idxOf_cons_self]
      exact fun j hj => (e j hj).symm
    · have hk2 : k ∈ L := (List.mem_cons.mp hk).elim (fun e => absurd e.symm hx) id
      have ih := map_set_ix F F' k h L hk2 hn2.2
      have hi : (x :: L).idxOf k = L.idxOf k + 1 := by rw [List.idxOf_cons, show (x == k) = false from beq_false_of_ne hx]; rfl
      rw [hi, List.map_cons, List.set_cons_succ, ih, List.map_cons, h x hx]
theorem mw_seta {cT : Nat → ClassId} {ad : Nat → Nat} {I : Nat → Int32} {J : Nat → Int64} {a : Nat → Nat → Int32} {g : Nat → Nat → Int64} {k : Nat} (hk : k ∈ mArr) (h3 : mKind k ≠ 3) (f : Nat → Int32) : (mw cT ad I J a g).set (mPos k) (ad k, .inl (cT (if mKind k = 4 then 2 else 0), mLen k, .inl f)) = mw cT ad I J (va_up a k f) g := by
  have e : ((ad k, .inl (cT (if mKind k = 4 then 2 else 0), mLen k, .inl f)) : Nat × va_E) = (fun k => (ad k, mE cT (va_up a k f) g k)) k := by simp [mE, h3, va_up]
  unfold mw mPos
  rw [List.set_cons_succ]
  congr 1
  rw [show (ad k, Sum.inl (cT (if mKind k = 4 then 2 else 0), mLen k, Sum.inl f)) = (fun j => (ad j, mE cT (va_up a k f) g j)) k by simp [mE, h3, va_up]]
  exact map_set_ix (fun k => (ad k, mE cT a g k)) (fun j => (ad j, mE cT (va_up a k f) g j)) k (fun j hj => by simp [mE, va_up, hj]) mArr hk mArr_nd
theorem mw_setg {cT : Nat → ClassId} {ad : Nat → Nat} {I : Nat → Int32} {J : Nat → Int64} {a : Nat → Nat → Int32} {g : Nat → Nat → Int64} {k : Nat} (hk : k ∈ mArr) (h3 : mKind k = 3) (f : Nat → Int64) : (mw cT ad I J a g).set (mPos k) (ad k, .inl (cT 1, mLen k, .inr (.inl f))) = mw cT ad I J a (va_up g k f) := by
  unfold mw mPos
  rw [List.set_cons_succ]
  congr 1
  rw [show (ad k, Sum.inl (cT 1, mLen k, Sum.inr (Sum.inl f))) = (fun j => (ad j, mE cT a (va_up g k f) j)) k by simp [mE, h3, va_up]]
  exact map_set_ix (fun k => (ad k, mE cT a g k)) (fun j => (ad j, mE cT a (va_up g k f) j)) k (fun j hj => by simp [mE, va_up, hj]) mArr hk mArr_nd
-- contracts: a static method that reads nothing; the reference's method that only reads; one that writes
def rmOf (fr lo : Nat) : Room := { frames := fr, cells := 0, slots := 0, locals := lo }
def SMi (l : Launch) (y : MethodName) (b : ByteArray) (n : Nat) (r : Option FieldType) (fr lo : Nat) (av : List Value) (post : Int32 → Prop) : Prop := Met l y (wm y b n r) (rmOf fr lo) (fun v _ => v = av.toArray) (vp_Si post) 0 0 (fun _ => False)
def SMl (l : Launch) (y : MethodName) (b : ByteArray) (n : Nat) (r : Option FieldType) (fr lo : Nat) (av : List Value) (post : Int64 → Prop) : Prop := Met l y (wm y b n r) (rmOf fr lo) (fun v _ => v = av.toArray) (vp_Sl post) 0 0 (fun _ => False)
def mPc (D : va_G) (cT : Nat → ClassId) (ad : Nat → Nat) (av : List Value) (I : Nat → Int32) (J : Nat → Int64) (a : Nat → Nat → Int32) (g : Nat → Nat → Int64) : Array Value → State → Prop := va_Pc (.ref (ad 46) :: av) (fun U => va_P D classes (mw cT ad I J a g) U.heap ∧ KE D cT U ∧ va_D (MA ad) (mw cT ad I J a g))
def mB (D : va_G) (cT : Nat → ClassId) (ad : Nat → Nat) (u : MS) (t : State) : Prop := va_P D classes (mw cT ad u.1 u.2.1 u.2.2.1 u.2.2.2) t.heap ∧ va_D (MA ad) (mw cT ad u.1 u.2.1 u.2.2.1 u.2.2.2)
def MRi (l : Launch) (D : va_G) (cT : Nat → ClassId) (ad : Nat → Nat) (y : MethodName) (b : ByteArray) (n : Nat) (r : Option FieldType) (fr lo : Nat) (av : List Value) (I : Nat → Int32) (J : Nat → Int64) (a : Nat → Nat → Int32) (g : Nat → Nat → Int64) (post : Int32 → Prop) : Prop := Met l y (wm y b n r) (rmOf fr lo) (mPc D cT ad av I J a g) (vp_Si post) 0 0 (fun _ => False)
def MMi (l : Launch) (D : va_G) (cT : Nat → ClassId) (ad : Nat → Nat) (y : MethodName) (b : ByteArray) (n : Nat) (r : Option FieldType) (fr lo : Nat) (av : List Value) (I : Nat → Int32) (J : Nat → Int64) (a : Nat → Nat → Int32) (g : Nat → Nat → Int64) (post : Int32 → MS → Prop) : Prop := Met l y (wm y b n r) (rmOf fr lo) (mPc D cT ad av I J a g) (va_Qi post (mB D cT ad) (MA ad)) 0 0 (MA ad)
def MMv (l : Launch) (D : va_G) (cT : Nat → ClassId) (ad : Nat → Nat) (y : MethodName) (b : ByteArray) (n : Nat) (r : Option FieldType) (fr lo : Nat) (av : List Value) (I : Nat → Int32) (J : Nat → Int64) (a : Nat → Nat → Int32) (g : Nat → Nat → Int64) (post : MS → Prop) : Prop := Met l y (wm y b n r) (rmOf fr lo) (mPc D cT ad av I J a g) (va_Qv post (mB D cT ad) (MA ad)) 0 0 (MA ad)
theorem mPc_blind {D : va_G} {cT : Nat → ClassId} {ad : Nat → Nat} {av : List Value} {I : Nat → Int32} {J : Nat → Int64} {a : Nat → Nat → Int32} {g : Nat → Nat → Int64} : FrameBlind (mPc D cT ad av I J a g) := fun _ _ _ _ h => ⟨h.1, h.2.1, h.2.2.1.blind, h.2.2.2⟩
theorem lcx_lt (x y : Int64) : (lg_cmp x y < 0) ↔ x < y := by
  have h := lg_cmp_ge x y
  rw [Int32.le_iff_toInt_le] at h
  rw [Int32.lt_iff_toInt_lt, Int64.lt_iff_toInt_lt]
  rw [Int64.le_iff_toInt_le] at h
  omega
theorem lcx_gt (x y : Int64) : (0 < lg_cmp x y) ↔ y < x := by
  have h := lg_cmp_le x y
  rw [Int32.le_iff_toInt_le] at h
  rw [Int32.lt_iff_toInt_lt, Int64.lt_iff_toInt_lt]
  rw [Int64.le_iff_toInt_le] at h
  omega
theorem lcx_eq (x y : Int64) : (lg_cmp x y = 0) ↔ x = y := by
  have h := lg_cmp_le x y
  have h2 := lg_cmp_ge x y
  rw [Int32.le_iff_toInt_le] at h h2
  rw [Int64.le_iff_toInt_le] at h h2
  rw [← Int32.toInt_inj, ← Int64.toInt_inj]
  have e0 : (0 : Int32).toInt = 0 := rfl
  omega
theorem n_le32 {x y : Int32} : y ≤ x ↔ ¬ x < y := by rw [Int32.le_iff_toInt_le, Int32.lt_iff_toInt_lt]; omega
theorem n_le64 {x y : Int64} : y ≤ x ↔ ¬ x < y := by rw [Int64.le_iff_toInt_le, Int64.lt_iff_toInt_lt]; omega
section SG
variable {p : Program} {l : Launch} {e : Env} {RM : Room} {s : State} {m : MethodId} {args : Array Value} {below : List Frame} {meth : Method} {c : Code} {H H0 : Heap} {locs : List Loc} {cells slots : Nat} {Q : State → Prop} {cc : ByteArray} {pc nL : Nat} {ls : Array Slot} {rest : List Value}
variable {D : va_G} {cT : Nat → ClassId} {ad : Nat → Nat} {I : Nat → Int32} {J : Nat → Int64} {a : Nat → Nat → Int32} {g : Nat → Nat → Int64}
theorem mo_geti (hC : CallFix p m c cc nL s args GW R_Mo) (hK : KE D cT s) (hM : MO D cT ad I J a g H0 H locs) (k : Nat) {index : Nat} (hf : Cond.fieldLink R_Mo index "SignSolidsModel" (F_Mo k).2.1 (F_Mo k).2.2.1 ∈ GW) (h0 : (F_Mo k).1 = "SignSolidsModel") (hk : mKind k = 0) (h46 : k < 46) {v : Int32} (hv : I k = v) (hdg : decode cc pc = .ok (.getfield index, 3))
    (kk : W p l e RM s m args below meth c H locs cells slots Q (F0 m (pc + 3) ls (.int v :: rest))) : W p l e RM s m args below meth c H locs cells slots Q (F0 m pc ls (.ref (ad 46) :: rest)) :=
  va_get (D := D) (ci := 12) (C := R_Mo) (T := F_Mo) (N := 46) hC.1 hC.2.1 hC.2.2.2.2 in_Mo hC.2.2.2.1 hK.1 hM.1 0 rfl rfl k h46 (hC.2.2.2.2 _ hf) (fun x hx => by rw [h0] at hx; exact hx) (v := .int v) (by rw [mFs_get h46]; simp [mf, hk, hv]) hdg kk
theorem mo_getj (hC : CallFix p m c cc nL s args GW R_Mo) (hK : KE D cT s) (hM : MO D cT ad I J a g H0 H locs) (k : Nat) {index : Nat} (hf : Cond.fieldLink R_Mo index "SignSolidsModel" (F_Mo k).2.1 (F_Mo k).2.2.1 ∈ GW) (h0 : (F_Mo k).1 = "SignSolidsModel") (hk : mKind k = 1) (h46 : k < 46) {v : Int64} (hv : J k = v) (hdg : decode cc pc = .ok (.getfield index, 3))
    (kk : W p l e RM s m args below meth c H locs cells slots Q (F0 m (pc + 3) ls (.long v :: rest))) : W p l e RM s m args below meth c H locs cells slots Q (F0 m pc ls (.ref (ad 46) :: rest)) :=
  va_get (D := D) (ci := 12) (C := R_Mo) (T := F_Mo) (N := 46) hC.1 hC.2.1 hC.2.2.2.2 in_Mo hC.2.2.2.1 hK.1 hM.1 0 rfl rfl k h46 (hC.2.2.2.2 _ hf) (fun x hx => by rw [h0] at hx; exact hx) (v := .long v) (by rw [mFs_get h46]; simp [mf, hk, hv]) hdg kk
theorem mo_getr (hC : CallFix p m c cc nL s args GW R_Mo) (hK : KE D cT s) (hM : MO D cT ad I J a g H0 H locs) (k : Nat) {index : Nat} (hf : Cond.fieldLink R_Mo index "SignSolidsModel" (F_Mo k).2.1 (F_Mo k).2.2.1 ∈ GW) (h0 : (F_Mo k).1 = "SignSolidsModel") (hk : 2 ≤ mKind k) (h46 : k < 46) (hdg : decode cc pc = .ok (.getfield index, 3))
    (kk : W p l e RM s m args below meth c H locs cells slots Q (F0 m (pc + 3) ls (.ref (ad k) :: rest))) : W p l e RM s m args below meth c H locs cells slots Q (F0 m pc ls (.ref (ad 46) :: rest)) :=
  va_get (D := D) (ci := 12) (C := R_Mo) (T := F_Mo) (N := 46) hC.1 hC.2.1 hC.2.2.2.2 in_Mo hC.2.2.2.1 hK.1 hM.1 0 rfl rfl k h46 (hC.2.2.2.2 _ hf) (fun x hx => by rw [h0] at hx; exact hx) (v := .ref (ad k)) (by rw [mFs_get h46]; simp [mf, show mKind k ≠ 0 by omega, show mKind k ≠ 1 by omega]) hdg kk
theorem mo_puti (hC : CallFix p m c cc nL s args GW R_Mo) (hK : KE D cT s) (hM : MO D cT ad I J a g H0 H locs) (k : Nat) {index : Nat} (hf : Cond.fieldLink R_Mo index "SignSolidsModel" (F_Mo k).2.1 (F_Mo k).2.2.1 ∈ GW) (h0 : (F_Mo k).1 = "SignSolidsModel") (hk : mKind k = 0) (h46 : k < 46) (hfin : (F_Mo k).2.2.2 = false) (hty : parseFieldDescriptor (F_Mo k).2.2.1 = some .int) {x : Int32} (hdg : decode cc pc = .ok (.putfield index, 3))
    (kk : ∀ (H1 : Heap) (locs1 : List Loc), MO D cT ad (upd I k x) J a g H0 H1 locs1 → W p l e RM s m args below meth c H1 locs1 cells slots Q (F0 m (pc + 3) ls rest)) : W p l e RM s m args below meth c H locs cells slots Q (F0 m pc ls (.int x :: .ref (ad 46) :: rest)) :=
  va_put (D := D) (ci := 12) (C := R_Mo) (T := F_Mo) (N := 46) (ty := .int) (v := .int x) hC.1 hC.2.1 hC.2.2.2.2 in_Mo t_Mo t_Mo_ok n_Mo hC.2.2.2.1 hK.1 hM.1 hM.2.1 hM.2.2 0 rfl rfl k h46 (hC.2.2.2.2 _ hf) (fun y hy => by rw [h0] at hy; exact hy) hfin hty rfl rfl (by rw [mFs_len]; exact h46) hdg (fun H1 locs1 hP hD hS => by
    rw [mFs_seti hk] at hP hD
    exact kk H1 locs1 ⟨hP, hD, hS⟩)
theorem mo_putj (hC : CallFix p m c cc nL s args GW R_Mo) (hK : KE D cT s) (hM : MO D cT ad I J a g H0 H locs) (k : Nat) {index : Nat} (hf : Cond.fieldLink R_Mo index "SignSolidsModel" (F_Mo k).2.1 (F_Mo k).2.2.1 ∈ GW) (h0 : (F_Mo k).1 = "SignSolidsModel") (hk : mKind k = 1) (h46 : k < 46) (hfin : (F_Mo k).2.2.2 = false) (hty : parseFieldDescriptor (F_Mo k).2.2.1 = some .long) {x : Int64} (hdg : decode cc pc = .ok (.putfield index, 3))
    (kk : ∀ (H1 : Heap) (locs1 : List Loc), MO D cT ad I (vp_updL J k x) a g H0 H1 locs1 → W p l e RM s m args below meth c H1 locs1 cells slots Q (F0 m (pc + 3) ls rest)) : W p l e RM s m args below meth c H locs cells slots Q (F0 m pc ls (.long x :: .ref (ad 46) :: rest)) :=
  va_put (D := D) (ci := 12) (C := R_Mo) (T := F_Mo) (N := 46) (ty := .long) (v := .long x) hC.1 hC.2.1 hC.2.2.2.2 in_Mo t_Mo t_Mo_ok n_Mo hC.2.2.2.1 hK.1 hM.1 hM.2.1 hM.2.2 0 rfl rfl k h46 (hC.2.2.2.2 _ hf) (fun y hy => by rw [h0] at hy; exact hy) hfin hty rfl rfl (by rw [mFs_len]; exact h46) hdg (fun H1 locs1 hP hD hS => by
    rw [mFs_setj hk] at hP hD
    exact kk H1 locs1 ⟨hP, hD, hS⟩)
theorem mo_iald (hC : CallFix p m c cc nL s args GW R_Mo) (hK : KE D cT s) (hM : MO D cT ad I J a g H0 H locs) (k : Nat) (ha : k ∈ mArr) (hk : mKind k = 2) {n : Nat} (hn : mLen k = n) {i : Int32} (hin : vp_in i n) {v : Int32} (hv : a k i.toNatClampNeg = v) (hdg : decode cc pc = .ok (.iaload, 1))
    (kk : W p l e RM s m args below meth c H locs cells slots Q (F0 m (pc + 1) ls (.int v :: rest))) : W p l e RM s m args below meth c H locs cells slots Q (F0 m pc ls (.int i :: .ref (ad k) :: rest)) := by
  subst hn hv
  have h := mw_arr (cT := cT) (ad := ad) (I := I) (J := J) (a := a) (g := g) ha
  simp only [mE, hk] at h
  exact va_iald hC.1 hC.2.1 hK.1 hM.1 (mPos k) 0 h rfl hin hdg kk
theorem mo_zald (hC : CallFix p m c cc nL s args GW R_Mo) (hK : KE D cT s) (hM : MO D cT ad I J a g H0 H locs) (k : Nat) (ha : k ∈ mArr) (hk : mKind k = 4) {n : Nat} (hn : mLen k = n) {i : Int32} (hin : vp_in i n) {v : Int32} (hv : a k i.toNatClampNeg = v) (hdg : decode cc pc = .ok (.baload, 1))
    (kk : W p l e RM s m args below meth c H locs cells slots Q (F0 m (pc + 1) ls (.int v :: rest))) : W p l e RM s m args below meth c H locs cells slots Q (F0 m pc ls (.int i :: .ref (ad k) :: rest)) := by
  subst hn hv
  have h := mw_arr (cT := cT) (ad := ad) (I := I) (J := J) (a := a) (g := g) ha
  simp only [mE, hk] at h
  exact va_zald hC.1 hC.2.1 hK.1 hM.1 (mPos k) 2 h rfl hin hdg kk
theorem mo_lald (hC : CallFix p m c cc nL s args GW R_Mo) (hK : KE D cT s) (hM : MO D cT ad I J a g H0 H locs) (k : Nat) (ha : k ∈ mArr) (hk : mKind k = 3) {n : Nat} (hn : mLen k = n) {i : Int32} (hin : vp_in i n) {v : Int64} (hv : g k i.toNatClampNeg = v) (hdg : decode cc pc = .ok (.laload, 1))
    (kk : W p l e RM s m args below meth c H locs cells slots Q (F0 m (pc + 1) ls (.long v :: rest))) : W p l e RM s m args below meth c H locs cells slots Q (F0 m pc ls (.int i :: .ref (ad k) :: rest)) := by
  subst hn hv
  have h := mw_arr (cT := cT) (ad := ad) (I := I) (J := J) (a := a) (g := g) ha
  simp only [mE, hk] at h
  exact va_lald hC.1 hC.2.1 hK.1 hM.1 (mPos k) 1 h rfl hin hdg kk
theorem mo_iast (hC : CallFix p m c cc nL s args GW R_Mo) (hK : KE D cT s) (hM : MO D cT ad I J a g H0 H locs) (k : Nat) (ha : k ∈ mArr) (hk : mKind k = 2) {n : Nat} (hn : mLen k = n) {i x : Int32} (hin : vp_in i n) (hdg : decode cc pc = .ok (.iastore, 1))
    (kk : ∀ (H1 : Heap) (locs1 : List Loc), MO D cT ad I J (va_up a k (upd (a k) i.toNatClampNeg x)) g H0 H1 locs1 → W p l e RM s m args below meth c H1 locs1 cells slots Q (F0 m (pc + 1) ls rest)) : W p l e RM s m args below meth c H locs cells slots Q (F0 m pc ls (.int x :: .int i :: .ref (ad k) :: rest)) := by
  subst hn
  have h := mw_arr (cT := cT) (ad := ad) (I := I) (J := J) (a := a) (g := g) ha
  simp only [mE, hk] at h
  refine va_iast hC.1 hC.2.1 hK.1 hM.1 hM.2.1 hM.2.2 (mPos k) 0 h rfl hin hdg (fun H1 locs1 hP hD hS => ?_)
  have e := mw_seta (cT := cT) (ad := ad) (I := I) (J := J) (a := a) (g := g) ha (by rw [hk]; decide) (upd (a k) i.toNatClampNeg x)
  rw [hk] at e
  exact kk H1 locs1 ⟨e ▸ hP, e ▸ hD, hS⟩
theorem mo_zast (hC : CallFix p m c cc nL s args GW R_Mo) (hK : KE D cT s) (hM : MO D cT ad I J a g H0 H locs) (k : Nat) (ha : k ∈ mArr) (hk : mKind k = 4) {n : Nat} (hn : mLen k = n) {i x : Int32} (hin : vp_in i n) (hz : x = 0 ∨ x = 1) (hdg : decode cc pc = .ok (.bastore, 1))
    (kk : ∀ (H1 : Heap) (locs1 : List Loc), MO D cT ad I J (va_up a k (upd (a k) i.toNatClampNeg x)) g H0 H1 locs1 → W p l e RM s m args below meth c H1 locs1 cells slots Q (F0 m (pc + 1) ls rest)) : W p l e RM s m args below meth c H locs cells slots Q (F0 m pc ls (.int x :: .int i :: .ref (ad k) :: rest)) := by
  subst hn
  have h := mw_arr (cT := cT) (ad := ad) (I := I) (J := J) (a := a) (g := g) ha
  simp only [mE, hk] at h
  refine va_zast hC.1 hC.2.1 hK.1 hM.1 hM.2.1 hM.2.2 (mPos k) 2 h rfl hin hdg (fun H1 locs1 hP hD hS => ?_)
  have e := mw_seta (cT := cT) (ad := ad) (I := I) (J := J) (a := a) (g := g) ha (by rw [hk]; decide) (upd (a k) i.toNatClampNeg x)
  rw [hk] at e
  have hx : vp_nar .boolean x = x := by rcases hz with rfl | rfl <;> rfl
  rw [hx] at hP hD
  exact kk H1 locs1 ⟨e ▸ hP, e ▸ hD, hS⟩
theorem mo_last (hC : CallFix p m c cc nL s args GW R_Mo) (hK : KE D cT s) (hM : MO D cT ad I J a g H0 H locs) (k : Nat) (ha : k ∈ mArr) (hk : mKind k = 3) {n : Nat} (hn : mLen k = n) {i : Int32} {x : Int64} (hin : vp_in i n) (hdg : decode cc pc = .ok (.lastore, 1))
    (kk : ∀ (H1 : Heap) (locs1 : List Loc), MO D cT ad I J a (va_up g k (vp_updL (g k) i.toNatClampNeg x)) H0 H1 locs1 → W p l e RM s m args below meth c H1 locs1 cells slots Q (F0 m (pc + 1) ls rest)) : W p l e RM s m args below meth c H locs cells slots Q (F0 m pc ls (.long x :: .int i :: .ref (ad k) :: rest)) := by
  subst hn
  have h := mw_arr (cT := cT) (ad := ad) (I := I) (J := J) (a := a) (g := g) ha
  simp only [mE, hk] at h
  refine va_last hC.1 hC.2.1 hK.1 hM.1 hM.2.1 hM.2.2 (mPos k) 1 h rfl hin hdg (fun H1 locs1 hP hD hS => ?_)
  have e := mw_setg (cT := cT) (ad := ad) (I := I) (J := J) (a := a) (g := g) ha hk (vp_updL (g k) i.toNatClampNeg x)
  exact kk H1 locs1 ⟨e ▸ hP, e ▸ hD, hS⟩
-- entries: the end is handed on as a hypothesis
theorem st_enti {y : MethodName} {b : ByteArray} {n : Nat} {fr lo : Nat} {av : List Value} {post : Int32 → Prop} {own : String} (hy : plainName y.cls = true) (ho : y.cls = own) (hlen : (lg_sl av).length ≤ n)
    (body : ∀ (p : Program) (e : Env) (s : State) (m : MethodId) (args : Array Value) (below : List Frame) (meth : Method) (c : Code) (Q : State → Prop), CallFix p m c b n s args GW own → (∀ (pc : Nat) (ls : Array Slot) (v : Int32), decode b pc = .ok (.ireturn, 1) → post v → W p l e (rmOf fr lo) s m args below meth c s.heap [] 0 0 Q (F0 m pc ls [.int v])) → ∀ ls : Array Slot, lv_has ls n (lv_args 0 av) →
      W p l e (rmOf fr lo) s m args below meth c s.heap [] 0 0 Q (F0 m 0 ls [])) : SMi l y b n (some .int) fr lo av post := by
  refine Met.ofW (cc := b) (maxL := n) (ret := some .int) hy rfl ?_
  intro p e s m args below meth c s₁ B hml hv
  have hv : args = av.toArray := hv
  subst hv
  have hts := atoms_spec (ws := wm y b n (some .int)) B.pre
  rw [lg_entry_eq]
  exact body p e s m _ below meth c _ ⟨B.exec, B.bytes, hml, by rw [← ho]; exact findClass_of_methodNamed B.named, fun w h => hts w (List.mem_cons_of_mem _ h)⟩ (fun pc ls v hdg hp => W.iret B.exec B.bytes B.returns (fun t ht _ => ⟨v, rfl, hp, ht⟩) (fun _ h => by cases h) hdg) _ (lv_entry av hlen)
theorem st_entz {y : MethodName} {b : ByteArray} {n : Nat} {fr lo : Nat} {av : List Value} {post : Int32 → Prop} {own : String} (hy : plainName y.cls = true) (ho : y.cls = own) (hlen : (lg_sl av).length ≤ n)
    (body : ∀ (p : Program) (e : Env) (s : State) (m : MethodId) (args : Array Value) (below : List Frame) (meth : Method) (c : Code) (Q : State → Prop), CallFix p m c b n s args GW own → (∀ (pc : Nat) (ls : Array Slot) (v : Int32), decode b pc = .ok (.ireturn, 1) → (v = 0 ∨ v = 1) → post v → W p l e (rmOf fr lo) s m args below meth c s.heap [] 0 0 Q (F0 m pc ls [.int v])) → ∀ ls : Array Slot, lv_has ls n (lv_args 0 av) →
      W p l e (rmOf fr lo) s m args below meth c s.heap [] 0 0 Q (F0 m 0 ls [])) : SMi l y b n (some .boolean) fr lo av post := by
  refine Met.ofW (cc := b) (maxL := n) (ret := some .boolean) hy rfl ?_
  intro p e s m args below meth c s₁ B hml hv
  have hv : args = av.toArray := hv
  subst hv
  have hts := atoms_spec (ws := wm y b n (some .boolean)) B.pre
  rw [lg_entry_eq]
  exact body p e s m _ below meth c _ ⟨B.exec, B.bytes, hml, by rw [← ho]; exact findClass_of_methodNamed B.named, fun w h => hts w (List.mem_cons_of_mem _ h)⟩ (fun pc ls v hdg hz hp => W.zret B.exec B.bytes B.returns (by rcases hz with rfl | rfl <;> rfl) (fun t ht _ => ⟨v, rfl, hp, ht⟩) (fun _ h => by cases h) hdg) _ (lv_entry av hlen)
theorem st_entl {y : MethodName} {b : ByteArray} {n : Nat} {fr lo : Nat} {av : List Value} {post : Int64 → Prop} {own : String} (hy : plainName y.cls = true) (ho : y.cls = own) (hlen : (lg_sl av).length ≤ n)
    (body : ∀ (p : Program) (e : Env) (s : State) (m : MethodId) (args : Array Value) (below : List Frame) (meth : Method) (c : Code) (Q : State → Prop), CallFix p m c b n s args GW own → (∀ (pc : Nat) (ls : Array Slot) (v : Int64), decode b pc = .ok (.lreturn, 1) → post v → W p l e (rmOf fr lo) s m args below meth c s.heap [] 0 0 Q (F0 m pc ls [.long v])) → ∀ ls : Array Slot, lv_has ls n (lv_args 0 av) →
      W p l e (rmOf fr lo) s m args below meth c s.heap [] 0 0 Q (F0 m 0 ls [])) : SMl l y b n (some .long) fr lo av post := by
  refine Met.ofW (cc := b) (maxL := n) (ret := some .long) hy rfl ?_
  intro p e s m args below meth c s₁ B hml hv
  have hv : args = av.toArray := hv
  subst hv
  have hts := atoms_spec (ws := wm y b n (some .long)) B.pre
  rw [lg_entry_eq]
  exact body p e s m _ below meth c _ ⟨B.exec, B.bytes, hml, by rw [← ho]; exact findClass_of_methodNamed B.named, fun w h => hts w (List.mem_cons_of_mem _ h)⟩ (fun pc ls v hdg hp => W.lret B.exec B.bytes B.returns (fun t ht _ => ⟨v, rfl, hp, ht⟩) (fun _ h => by cases h) hdg) _ (lv_entry av hlen)
theorem mr_enti {y : MethodName} {b : ByteArray} {n : Nat} {fr lo : Nat} {av : List Value} {post : Int32 → Prop} (hy : plainName y.cls = true) (ho : y.cls = R_Mo) (hlen : (lg_sl (.ref (ad 46) :: av)).length ≤ n)
    (body : ∀ (p : Program) (e : Env) (s : State) (m : MethodId) (args : Array Value) (below : List Frame) (meth : Method) (c : Code) (Q : State → Prop), CallFix p m c b n s args GW R_Mo → KE D cT s → MO D cT ad I J a g s.heap s.heap [] → (∀ (pc : Nat) (ls : Array Slot) (v : Int32), decode b pc = .ok (.ireturn, 1) → post v → W p l e (rmOf fr lo) s m args below meth c s.heap [] 0 0 Q (F0 m pc ls [.int v])) → ∀ ls : Array Slot, lv_has ls n (lv_args 0 (.ref (ad 46) :: av)) →
      W p l e (rmOf fr lo) s m args below meth c s.heap [] 0 0 Q (F0 m 0 ls [])) : MRi l D cT ad y b n (some .int) fr lo av I J a g post := by
  refine Met.ofW (cc := b) (maxL := n) (ret := some .int) hy rfl ?_
  intro p e s m args below meth c s₁ B hml hv
  obtain ⟨hv, hP, hK, hD⟩ := hv
  subst hv
  have hts := atoms_spec (ws := wm y b n (some .int)) B.pre
  rw [lg_entry_eq]
  exact body p e s m _ below meth c _ ⟨B.exec, B.bytes, hml, by rw [← ho]; exact findClass_of_methodNamed B.named, fun w h => hts w (List.mem_cons_of_mem _ h)⟩ hK ⟨hP, hD, va_S.rf⟩ (fun pc ls v hdg hp => W.iret B.exec B.bytes B.returns (fun t ht _ => ⟨v, rfl, hp, ht⟩) (fun _ h => by cases h) hdg) _ (lv_entry _ hlen)
theorem mr_entz {y : MethodName} {b : ByteArray} {n : Nat} {fr lo : Nat} {av : List Value} {post : Int32 → Prop} (hy : plainName y.cls = true) (ho : y.cls = R_Mo) (hlen : (lg_sl (.ref (ad 46) :: av)).length ≤ n)
    (body : ∀ (p : Program) (e : Env) (s : State) (m : MethodId) (args : Array Value) (below : List Frame) (meth : Method) (c : Code) (Q : State → Prop), CallFix p m c b n s args GW R_Mo → KE D cT s → MO D cT ad I J a g s.heap s.heap [] → (∀ (pc : Nat) (ls : Array Slot) (v : Int32), decode b pc = .ok (.ireturn, 1) → (v = 0 ∨ v = 1) → post v → W p l e (rmOf fr lo) s m args below meth c s.heap [] 0 0 Q (F0 m pc ls [.int v])) → ∀ ls : Array Slot, lv_has ls n (lv_args 0 (.ref (ad 46) :: av)) →
      W p l e (rmOf fr lo) s m args below meth c s.heap [] 0 0 Q (F0 m 0 ls [])) : MRi l D cT ad y b n (some .boolean) fr lo av I J a g post := by
  refine Met.ofW (cc := b) (maxL := n) (ret := some .boolean) hy rfl ?_
  intro p e s m args below meth c s₁ B hml hv
  obtain ⟨hv, hP, hK, hD⟩ := hv
  subst hv
  have hts := atoms_spec (ws := wm y b n (some .boolean)) B.pre
  rw [lg_entry_eq]
  exact body p e s m _ below meth c _ ⟨B.exec, B.bytes, hml, by rw [← ho]; exact findClass_of_methodNamed B.named, fun w h => hts w (List.mem_cons_of_mem _ h)⟩ hK ⟨hP, hD, va_S.rf⟩ (fun pc ls v hdg hz hp => W.zret B.exec B.bytes B.returns (by rcases hz with rfl | rfl <;> rfl) (fun t ht _ => ⟨v, rfl, hp, ht⟩) (fun _ h => by cases h) hdg) _ (lv_entry _ hlen)
theorem mo_enti {y : MethodName} {b : ByteArray} {n : Nat} {fr lo : Nat} {av : List Value} {post : Int32 → MS → Prop} (hy : plainName y.cls = true) (ho : y.cls = R_Mo) (hlen : (lg_sl (.ref (ad 46) :: av)).length ≤ n)
    (body : ∀ (p : Program) (e : Env) (s : State) (m : MethodId) (args : Array Value) (below : List Frame) (meth : Method) (c : Code) (Q : State → Prop), CallFix p m c b n s args GW R_Mo → KE D cT s → MO D cT ad I J a g s.heap s.heap [] → (∀ (pc : Nat) (ls : Array Slot) (v : Int32) (I : Nat → Int32) (J : Nat → Int64) (a : Nat → Nat → Int32) (g : Nat → Nat → Int64) (H : Heap) (locs : List Loc), decode b pc = .ok (.ireturn, 1) → MO D cT ad I J a g s.heap H locs → post v (I, J, a, g) → W p l e (rmOf fr lo) s m args below meth c H locs 0 0 Q (F0 m pc ls [.int v])) → ∀ ls : Array Slot, lv_has ls n (lv_args 0 (.ref (ad 46) :: av)) →
      W p l e (rmOf fr lo) s m args below meth c s.heap [] 0 0 Q (F0 m 0 ls [])) : MMi l D cT ad y b n (some .int) fr lo av I J a g post := by
  refine Met.ofW (cc := b) (maxL := n) (ret := some .int) hy rfl ?_
  intro p e s m args below meth c s₁ B hml hv
  obtain ⟨hv, hP, hK, hD⟩ := hv
  subst hv
  have hts := atoms_spec (ws := wm y b n (some .int)) B.pre
  rw [lg_entry_eq]
  exact body p e s m _ below meth c _ ⟨B.exec, B.bytes, hml, by rw [← ho]; exact findClass_of_methodNamed B.named, fun w h => hts w (List.mem_cons_of_mem _ h)⟩ hK ⟨hP, hD, va_S.rf⟩ (fun pc ls v I J a g H locs hdg hM hp => W.iret B.exec B.bytes B.returns (fun t ht _ => ⟨⟨v, (I, J, a, g), rfl, hp, by rw [ht]; exact hM.1, hM.2.1⟩, hM.2.2.F ht⟩) hM.2.2.2.2 hdg) _ (lv_entry _ hlen)
theorem mo_entz {y : MethodName} {b : ByteArray} {n : Nat} {fr lo : Nat} {av : List Value} {post : Int32 → MS → Prop} (hy : plainName y.cls = true) (ho : y.cls = R_Mo) (hlen : (lg_sl (.ref (ad 46) :: av)).length ≤ n)
    (body : ∀ (p : Program) (e : Env) (s : State) (m : MethodId) (args : Array Value) (below : List Frame) (meth : Method) (c : Code) (Q : State → Prop), CallFix p m c b n s args GW R_Mo → KE D cT s → MO D cT ad I J a g s.heap s.heap [] → (∀ (pc : Nat) (ls : Array Slot) (v : Int32) (I : Nat → Int32) (J : Nat → Int64) (a : Nat → Nat → Int32) (g : Nat → Nat → Int64) (H : Heap) (locs : List Loc), decode b pc = .ok (.ireturn, 1) → (v = 0 ∨ v = 1) → MO D cT ad I J a g s.heap H locs → post v (I, J, a, g) → W p l e (rmOf fr lo) s m args below meth c H locs 0 0 Q (F0 m pc ls [.int v])) → ∀ ls : Array Slot, lv_has ls n (lv_args 0 (.ref (ad 46) :: av)) →
      W p l e (rmOf fr lo) s m args below meth c s.heap [] 0 0 Q (F0 m 0 ls [])) : MMi l D cT ad y b n (some .boolean) fr lo av I J a g post := by
  refine Met.ofW (cc := b) (maxL := n) (ret := some .boolean) hy rfl ?_
  intro p e s m args below meth c s₁ B hml hv
  obtain ⟨hv, hP, hK, hD⟩ := hv
  subst hv
  have hts := atoms_spec (ws := wm y b n (some .boolean)) B.pre
  rw [lg_entry_eq]
  exact body p e s m _ below meth c _ ⟨B.exec, B.bytes, hml, by rw [← ho]; exact findClass_of_methodNamed B.named, fun w h => hts w (List.mem_cons_of_mem _ h)⟩ hK ⟨hP, hD, va_S.rf⟩ (fun pc ls v I J a g H locs hdg hz hM hp => W.zret B.exec B.bytes B.returns (by rcases hz with rfl | rfl <;> rfl) (fun t ht _ => ⟨⟨v, (I, J, a, g), rfl, hp, by rw [ht]; exact hM.1, hM.2.1⟩, hM.2.2.F ht⟩) hM.2.2.2.2 hdg) _ (lv_entry _ hlen)
theorem mo_entv {y : MethodName} {b : ByteArray} {n : Nat} {fr lo : Nat} {av : List Value} {post : MS → Prop} (hy : plainName y.cls = true) (ho : y.cls = R_Mo) (hlen : (lg_sl (.ref (ad 46) :: av)).length ≤ n)
    (body : ∀ (p : Program) (e : Env) (s : State) (m : MethodId) (args : Array Value) (below : List Frame) (meth : Method) (c : Code) (Q : State → Prop), CallFix p m c b n s args GW R_Mo → KE D cT s → MO D cT ad I J a g s.heap s.heap [] → (∀ (pc : Nat) (ls : Array Slot) (I : Nat → Int32) (J : Nat → Int64) (a : Nat → Nat → Int32) (g : Nat → Nat → Int64) (H : Heap) (locs : List Loc), decode b pc = .ok (.return_, 1) → MO D cT ad I J a g s.heap H locs → post (I, J, a, g) → W p l e (rmOf fr lo) s m args below meth c H locs 0 0 Q (F0 m pc ls [])) → ∀ ls : Array Slot, lv_has ls n (lv_args 0 (.ref (ad 46) :: av)) →
      W p l e (rmOf fr lo) s m args below meth c s.heap [] 0 0 Q (F0 m 0 ls [])) : MMv l D cT ad y b n (none) fr lo av I J a g post := by
  refine Met.ofW (cc := b) (maxL := n) (ret := none) hy rfl ?_
  intro p e s m args below meth c s₁ B hml hv
  obtain ⟨hv, hP, hK, hD⟩ := hv
  subst hv
  have hts := atoms_spec (ws := wm y b n (none)) B.pre
  rw [lg_entry_eq]
  exact body p e s m _ below meth c _ ⟨B.exec, B.bytes, hml, by rw [← ho]; exact findClass_of_methodNamed B.named, fun w h => hts w (List.mem_cons_of_mem _ h)⟩ hK ⟨hP, hD, va_S.rf⟩ (fun pc ls I J a g H locs hdg hM hp => W.vret B.exec B.bytes B.returns (fun t ht _ => ⟨⟨(I, J, a, g), rfl, hp, by rw [ht]; exact hM.1, hM.2.1⟩, hM.2.2.F ht⟩) hM.2.2.2.2 hdg) _ (lv_entry _ hlen)
-- joins; a comparison of longs and the branch behind it
theorem jn {g1 g2 : JFrame} (k : W p l e RM s m args below meth c H locs cells slots Q g2) (kk : W p l e RM s m args below meth c H locs cells slots Q g2 → W p l e RM s m args below meth c H locs cells slots Q g1) : W p l e RM s m args below meth c H locs cells slots Q g1 := kk k
theorem lc_lt (hx : p.tables.exec = Jvm.exec) (hb : c.code = cc) {x y : Int64} {off : Int} {tgt : Nat} (hd1 : decode cc pc = .ok (.lcmp, 1)) (hd2 : decode cc (pc + 1) = .ok (.ifCond .lt off, 3)) (ht : ((pc + 1 : Nat) : Int) + off = (tgt : Int))
    (kt : x < y → W p l e RM s m args below meth c H locs cells slots Q (F0 m tgt ls rest)) (kf : ¬ x < y → W p l e RM s m args below meth c H locs cells slots Q (F0 m (pc + 1 + 3) ls rest)) : W p l e RM s m args below meth c H locs cells slots Q (F0 m pc ls (.long y :: .long x :: rest)) := by
  have e : (lg_cmp x y < 0) ↔ x < y := lcx_lt x y
  exact W.lcmp hx hb hd1 (lv_if_lt (tgt := tgt) hx hb hd2 ht (fun h => kt (by rw [← e]; exact h)) (fun h => kf (by rw [← e]; exact h)))
theorem lc_ge (hx : p.tables.exec = Jvm.exec) (hb : c.code = cc) {x y : Int64} {off : Int} {tgt : Nat} (hd1 : decode cc pc = .ok (.lcmp, 1)) (hd2 : decode cc (pc + 1) = .ok (.ifCond .ge off, 3)) (ht : ((pc + 1 : Nat) : Int) + off = (tgt : Int))
    (kt : y ≤ x → W p l e RM s m args below meth c H locs cells slots Q (F0 m tgt ls rest)) (kf : ¬ y ≤ x → W p l e RM s m args below meth c H locs cells slots Q (F0 m (pc + 1 + 3) ls rest)) : W p l e RM s m args below meth c H locs cells slots Q (F0 m pc ls (.long y :: .long x :: rest)) := by
  have e : (0 ≤ lg_cmp x y) ↔ y ≤ x := lg_cmp_ge x y
  exact W.lcmp hx hb hd1 (lv_if_ge (tgt := tgt) hx hb hd2 ht (fun h => kt (by rw [← e]; exact h)) (fun h => kf (by rw [← e]; exact h)))
theorem lc_gt (hx : p.tables.exec = Jvm.exec) (hb : c.code = cc) {x y : Int64} {off : Int} {tgt : Nat} (hd1 : decode cc pc = .ok (.lcmp, 1)) (hd2 : decode cc (pc + 1) = .ok (.ifCond .gt off, 3)) (ht : ((pc + 1 : Nat) : Int) + off = (tgt : Int))
    (kt : y < x → W p l e RM s m args below meth c H locs cells slots Q (F0 m tgt ls rest)) (kf : ¬ y < x → W p l e RM s m args below meth c H locs cells slots Q (F0 m (pc + 1 + 3) ls rest)) : W p l e RM s m args below meth c H locs cells slots Q (F0 m pc ls (.long y :: .long x :: rest)) := by
  have e : (0 < lg_cmp x y) ↔ y < x := lcx_gt x y
  exact W.lcmp hx hb hd1 (lv_if_gt (tgt := tgt) hx hb hd2 ht (fun h => kt (by rw [← e]; exact h)) (fun h => kf (by rw [← e]; exact h)))
theorem lc_le (hx : p.tables.exec = Jvm.exec) (hb : c.code = cc) {x y : Int64} {off : Int} {tgt : Nat} (hd1 : decode cc pc = .ok (.lcmp, 1)) (hd2 : decode cc (pc + 1) = .ok (.ifCond .le off, 3)) (ht : ((pc + 1 : Nat) : Int) + off = (tgt : Int))
    (kt : x ≤ y → W p l e RM s m args below meth c H locs cells slots Q (F0 m tgt ls rest)) (kf : ¬ x ≤ y → W p l e RM s m args below meth c H locs cells slots Q (F0 m (pc + 1 + 3) ls rest)) : W p l e RM s m args below meth c H locs cells slots Q (F0 m pc ls (.long y :: .long x :: rest)) := by
  have e : (lg_cmp x y ≤ 0) ↔ x ≤ y := lg_cmp_le x y
  exact W.lcmp hx hb hd1 (lv_if_le (tgt := tgt) hx hb hd2 ht (fun h => kt (by rw [← e]; exact h)) (fun h => kf (by rw [← e]; exact h)))
theorem lc_eq (hx : p.tables.exec = Jvm.exec) (hb : c.code = cc) {x y : Int64} {off : Int} {tgt : Nat} (hd1 : decode cc pc = .ok (.lcmp, 1)) (hd2 : decode cc (pc + 1) = .ok (.ifCond .eq off, 3)) (ht : ((pc + 1 : Nat) : Int) + off = (tgt : Int))
    (kt : x = y → W p l e RM s m args below meth c H locs cells slots Q (F0 m tgt ls rest)) (kf : ¬ x = y → W p l e RM s m args below meth c H locs cells slots Q (F0 m (pc + 1 + 3) ls rest)) : W p l e RM s m args below meth c H locs cells slots Q (F0 m pc ls (.long y :: .long x :: rest)) := by
  have e : (lg_cmp x y = 0) ↔ x = y := lcx_eq x y
  exact W.lcmp hx hb hd1 (lv_if_eq (tgt := tgt) hx hb hd2 ht (fun h => kt (by rw [← e]; exact h)) (fun h => kf (by rw [← e]; exact h)))
theorem lc_ne (hx : p.tables.exec = Jvm.exec) (hb : c.code = cc) {x y : Int64} {off : Int} {tgt : Nat} (hd1 : decode cc pc = .ok (.lcmp, 1)) (hd2 : decode cc (pc + 1) = .ok (.ifCond .ne off, 3)) (ht : ((pc + 1 : Nat) : Int) + off = (tgt : Int))
    (kt : ¬ x = y → W p l e RM s m args below meth c H locs cells slots Q (F0 m tgt ls rest)) (kf : x = y → W p l e RM s m args below meth c H locs cells slots Q (F0 m (pc + 1 + 3) ls rest)) : W p l e RM s m args below meth c H locs cells slots Q (F0 m pc ls (.long y :: .long x :: rest)) := by
  have e : (lg_cmp x y = 0) ↔ x = y := lcx_eq x y
  exact W.lcmp hx hb hd1 (lv_if_ne (tgt := tgt) hx hb hd2 ht (fun h => kt (by rw [← e]; exact h)) (fun h => kf (by rw [← e]; exact h)))
theorem ls_ge (hx : p.tables.exec = Jvm.exec) (hb : c.code = cc) {x y : Int64} {off : Int} {tgt : Nat} (hd1 : decode cc pc = .ok (.lcmp, 1)) (hd2 : decode cc (pc + 1) = .ok (.ifCond .ge off, 3)) (ht : ((pc + 1 : Nat) : Int) + off = (tgt : Int))
    (kt : ¬ x < y → W p l e RM s m args below meth c H locs cells slots Q (F0 m tgt ls rest)) (kf : x < y → W p l e RM s m args below meth c H locs cells slots Q (F0 m (pc + 1 + 3) ls rest)) : W p l e RM s m args below meth c H locs cells slots Q (F0 m pc ls (.long y :: .long x :: rest)) :=
  lc_ge hx hb hd1 hd2 ht (fun h => kt (n_le64.mp h)) (fun h => kf (Decidable.not_not.mp fun z => h (n_le64.mpr z)))
theorem ls_le (hx : p.tables.exec = Jvm.exec) (hb : c.code = cc) {x y : Int64} {off : Int} {tgt : Nat} (hd1 : decode cc pc = .ok (.lcmp, 1)) (hd2 : decode cc (pc + 1) = .ok (.ifCond .le off, 3)) (ht : ((pc + 1 : Nat) : Int) + off = (tgt : Int))
    (kt : ¬ y < x → W p l e RM s m args below meth c H locs cells slots Q (F0 m tgt ls rest)) (kf : y < x → W p l e RM s m args below meth c H locs cells slots Q (F0 m (pc + 1 + 3) ls rest)) : W p l e RM s m args below meth c H locs cells slots Q (F0 m pc ls (.long y :: .long x :: rest)) :=
  lc_le hx hb hd1 hd2 ht (fun h => kt (n_le64.mp h)) (fun h => kf (Decidable.not_not.mp fun z => h (n_le64.mpr z)))
theorem ic_ge (hx : p.tables.exec = Jvm.exec) (hb : c.code = cc) {x y : Int32} {off : Int} {tgt : Nat} (hdg : decode cc pc = .ok (.if_icmp .ge off, 3)) (ht : (pc : Int) + off = (tgt : Int))
    (kt : ¬ x < y → W p l e RM s m args below meth c H locs cells slots Q (F0 m tgt ls rest)) (kf : x < y → W p l e RM s m args below meth c H locs cells slots Q (F0 m (pc + 3) ls rest)) : W p l e RM s m args below meth c H locs cells slots Q (F0 m pc ls (.int y :: .int x :: rest)) :=
  lv_icmp_ge hx hb hdg ht (fun h => kt (n_le32.mp h)) (fun h => kf (Decidable.not_not.mp fun z => h (n_le32.mpr z)))
theorem ic_le (hx : p.tables.exec = Jvm.exec) (hb : c.code = cc) {x y : Int32} {off : Int} {tgt : Nat} (hdg : decode cc pc = .ok (.if_icmp .le off, 3)) (ht : (pc : Int) + off = (tgt : Int))
    (kt : ¬ y < x → W p l e RM s m args below meth c H locs cells slots Q (F0 m tgt ls rest)) (kf : y < x → W p l e RM s m args below meth c H locs cells slots Q (F0 m (pc + 3) ls rest)) : W p l e RM s m args below meth c H locs cells slots Q (F0 m pc ls (.int y :: .int x :: rest)) :=
  lv_icmp_le hx hb hdg ht (fun h => kt (n_le32.mp h)) (fun h => kf (Decidable.not_not.mp fun z => h (n_le32.mpr z)))
theorem iz_ge (hx : p.tables.exec = Jvm.exec) (hb : c.code = cc) {x : Int32} {off : Int} {tgt : Nat} (hdg : decode cc pc = .ok (.ifCond .ge off, 3)) (ht : (pc : Int) + off = (tgt : Int))
    (kt : ¬ x < 0 → W p l e RM s m args below meth c H locs cells slots Q (F0 m tgt ls rest)) (kf : x < 0 → W p l e RM s m args below meth c H locs cells slots Q (F0 m (pc + 3) ls rest)) : W p l e RM s m args below meth c H locs cells slots Q (F0 m pc ls (.int x :: rest)) :=
  lv_if_ge hx hb hdg ht (fun h => kt (n_le32.mp h)) (fun h => kf (Decidable.not_not.mp fun z => h (n_le32.mpr z)))
theorem iz_le (hx : p.tables.exec = Jvm.exec) (hb : c.code = cc) {x : Int32} {off : Int} {tgt : Nat} (hdg : decode cc pc = .ok (.ifCond .le off, 3)) (ht : (pc : Int) + off = (tgt : Int))
    (kt : ¬ 0 < x → W p l e RM s m args below meth c H locs cells slots Q (F0 m tgt ls rest)) (kf : 0 < x → W p l e RM s m args below meth c H locs cells slots Q (F0 m (pc + 3) ls rest)) : W p l e RM s m args below meth c H locs cells slots Q (F0 m pc ls (.int x :: rest)) :=
  lv_if_le hx hb hdg ht (fun h => kt (n_le32.mp h)) (fun h => kf (Decidable.not_not.mp fun z => h (n_le32.mpr z)))
-- calls
theorem cw_V {y : MethodName} {b : ByteArray} {n np index fr lo : Nat} {r : Option FieldType} {own : String} (hts : ∀ w ∈ GW, w.before args s = true) (hw : Cond.methodLink own index y ∈ GW ∧ Cond.instanceMethod y ∈ GW ∧ Cond.selects y.cls y y ∈ GW ∧ Cond.code y b n r ∈ GW ∧ Cond.initialized y.cls ∈ GW) (hd : y.cls ≠ "java/lang/invoke/MethodHandle" ∧ y.cls ≠ "java/lang/invoke/VarHandle" ∧ (parseMethodDescriptor y.desc).map (fun d => d.parameters.length) = some np) (hR : fr + 1 ≤ RM.frames ∧ 8 + (n + 11) + lo ≤ RM.locals) : CallW RM s args own y.cls index y b n r (wm y b n r) (rmOf fr lo) 0 0 np :=
  ⟨callB_of np hts (gm hw.2.2.2.1) rfl rfl rfl (hts _ hw.2.2.2.2) (hts _ hw.1) hd hR, hts _ hw.2.1, hts _ hw.2.2.1⟩
theorem cw_S {y : MethodName} {b : ByteArray} {n np index fr lo : Nat} {r : Option FieldType} {own : String} (hts : ∀ w ∈ GW, w.before args s = true) (hw : Cond.methodLink own index y ∈ GW ∧ Cond.static y ∈ GW ∧ Cond.code y b n r ∈ GW ∧ Cond.initialized y.cls ∈ GW) (hd : y.cls ≠ "java/lang/invoke/MethodHandle" ∧ y.cls ≠ "java/lang/invoke/VarHandle" ∧ (parseMethodDescriptor y.desc).map (fun d => d.parameters.length) = some np) (hR : fr + 1 ≤ RM.frames ∧ 8 + (n + 11) + lo ≤ RM.locals) : CallB RM s args own index y b n r (wm y b n r) (rmOf fr lo) 0 0 np ∧ (Cond.static y).before args s = true :=
  ⟨callB_of np hts (gm hw.2.2.1) rfl rfl rfl (hts _ hw.2.2.2) (hts _ hw.1) hd hR, hts _ hw.2.1⟩
theorem st_calli {y : MethodName} {b : ByteArray} {n np index fr lo : Nat} {r : Option FieldType} {own : String} {av st : List Value} {post : Int32 → Prop} (hC : CallFix p m c cc nL s args GW own) (hm : SMi l y b n r fr lo av post) (hw : Cond.methodLink own index y ∈ GW ∧ Cond.static y ∈ GW ∧ Cond.code y b n r ∈ GW ∧ Cond.initialized y.cls ∈ GW) (hd : y.cls ≠ "java/lang/invoke/MethodHandle" ∧ y.cls ≠ "java/lang/invoke/VarHandle" ∧ (parseMethodDescriptor y.desc).map (fun d => d.parameters.length) = some np) (hR : fr + 1 ≤ RM.frames ∧ 8 + (n + 11) + lo ≤ RM.locals) (hsz : ls.size = nL) (hn : av.length = np) (hst : st = av.reverse ++ rest) (hcat : (rest.map fun v => v.category).sum ≤ 8) (hf : cells ≤ RM.cells ∧ slots ≤ RM.slots) (hdg : decode cc pc = .ok (.invokestatic index, 3))
    (kk : ∀ r : Int32, post r → W p l e RM s m args below meth c H locs cells slots Q (F0 m (pc + 3) ls (.int r :: rest))) : W p l e RM s m args below meth c H locs cells slots Q (F0 m pc ls st) :=
  vp_callSi (W.runS (As := av) (rest := rest) hC hm (cw_S hC.2.2.2.2 hw hd hR) ⟨fun _ _ _ _ h => h, fun _ _ _ => rfl⟩ rfl hn hsz hst (lv_room hcat) hdg hf) kk
theorem st_calll {y : MethodName} {b : ByteArray} {n np index fr lo : Nat} {r : Option FieldType} {own : String} {av st : List Value} {post : Int64 → Prop} (hC : CallFix p m c cc nL s args GW own) (hm : SMl l y b n r fr lo av post) (hw : Cond.methodLink own index y ∈ GW ∧ Cond.static y ∈ GW ∧ Cond.code y b n r ∈ GW ∧ Cond.initialized y.cls ∈ GW) (hd : y.cls ≠ "java/lang/invoke/MethodHandle" ∧ y.cls ≠ "java/lang/invoke/VarHandle" ∧ (parseMethodDescriptor y.desc).map (fun d => d.parameters.length) = some np) (hR : fr + 1 ≤ RM.frames ∧ 8 + (n + 11) + lo ≤ RM.locals) (hsz : ls.size = nL) (hn : av.length = np) (hst : st = av.reverse ++ rest) (hcat : (rest.map fun v => v.category).sum ≤ 8) (hf : cells ≤ RM.cells ∧ slots ≤ RM.slots) (hdg : decode cc pc = .ok (.invokestatic index, 3))
    (kk : ∀ r : Int64, post r → W p l e RM s m args below meth c H locs cells slots Q (F0 m (pc + 3) ls (.long r :: rest))) : W p l e RM s m args below meth c H locs cells slots Q (F0 m pc ls st) :=
  vp_callSl (W.runS (As := av) (rest := rest) hC hm (cw_S hC.2.2.2.2 hw hd hR) ⟨fun _ _ _ _ h => h, fun _ _ _ => rfl⟩ rfl hn hsz hst (lv_room hcat) hdg hf) kk
theorem mo_callr {y : MethodName} {b : ByteArray} {n np index fr lo : Nat} {r : Option FieldType} {av st : List Value} {post : Int32 → Prop} (hC : CallFix p m c cc nL s args GW R_Mo) (hK : KE D cT s) (hM : MO D cT ad I J a g H0 H locs) (hm : MRi l D cT ad y b n r fr lo av I J a g post) (hy : y.cls = R_Mo) (hw : Cond.methodLink R_Mo index y ∈ GW ∧ Cond.instanceMethod y ∈ GW ∧ Cond.selects y.cls y y ∈ GW ∧ Cond.code y b n r ∈ GW ∧ Cond.initialized y.cls ∈ GW) (hd : y.cls ≠ "java/lang/invoke/MethodHandle" ∧ y.cls ≠ "java/lang/invoke/VarHandle" ∧ (parseMethodDescriptor y.desc).map (fun d => d.parameters.length) = some np) (hR : fr + 1 ≤ RM.frames ∧ 8 + (n + 11) + lo ≤ RM.locals) (hsz : ls.size = nL) (hn : av.length = np) (hst : st = av.reverse ++ .ref (ad 46) :: rest) (hcat : (rest.map fun v => v.category).sum ≤ 8) (hf : cells ≤ RM.cells ∧ slots ≤ RM.slots) (hdg : decode cc pc = .ok (.invokevirtual index, 3))
    (kk : ∀ r : Int32, post r → W p l e RM s m args below meth c H locs cells slots Q (F0 m (pc + 3) ls (.int r :: rest))) : W p l e RM s m args below meth c H locs cells slots Q (F0 m pc ls st) :=
  vp_callSi (W.runV (As := av) (rest := rest) hC hm (cw_V hC.2.2.2.2 hw hd hR) ⟨mPc_blind, by rw [hy]; exact va_recv hK.1 hM.1 (ci := 12) (q0 := 0) rfl rfl, fun U hU hW => ⟨rfl, by rw [hU]; exact hM.1, hK.moved hW, hM.2.1⟩⟩ rfl hn hsz hst (lv_room hcat) hdg hf) kk
theorem mo_calli {y : MethodName} {b : ByteArray} {n np index fr lo : Nat} {r : Option FieldType} {av st : List Value} {post : Int32 → MS → Prop} (hC : CallFix p m c cc nL s args GW R_Mo) (hK : KE D cT s) (hM : MO D cT ad I J a g H0 H locs) (hm : MMi l D cT ad y b n r fr lo av I J a g post) (hy : y.cls = R_Mo) (hw : Cond.methodLink R_Mo index y ∈ GW ∧ Cond.instanceMethod y ∈ GW ∧ Cond.selects y.cls y y ∈ GW ∧ Cond.code y b n r ∈ GW ∧ Cond.initialized y.cls ∈ GW) (hd : y.cls ≠ "java/lang/invoke/MethodHandle" ∧ y.cls ≠ "java/lang/invoke/VarHandle" ∧ (parseMethodDescriptor y.desc).map (fun d => d.parameters.length) = some np) (hR : fr + 1 ≤ RM.frames ∧ 8 + (n + 11) + lo ≤ RM.locals) (hsz : ls.size = nL) (hn : av.length = np) (hst : st = av.reverse ++ .ref (ad 46) :: rest) (hcat : (rest.map fun v => v.category).sum ≤ 8) (hf : cells ≤ RM.cells ∧ slots ≤ RM.slots) (hdg : decode cc pc = .ok (.invokevirtual index, 3))
    (kk : ∀ (r : Int32) (I' : Nat → Int32) (J' : Nat → Int64) (a' : Nat → Nat → Int32) (g' : Nat → Nat → Int64) (H1 : Heap) (locs1 : List Loc), post r (I', J', a', g') → MO D cT ad I' J' a' g' H0 H1 locs1 → W p l e RM s m args below meth c H1 locs1 cells slots Q (F0 m (pc + 3) ls (.int r :: rest))) : W p l e RM s m args below meth c H locs cells slots Q (F0 m pc ls st) :=
  va_calli (va_runV (As := av) (rest := rest) hC hm (cw_V hC.2.2.2.2 hw hd hR) ⟨mPc_blind, by rw [hy]; exact va_recv hK.1 hM.1 (ci := 12) (q0 := 0) rfl rfl, fun U hU hW => ⟨rfl, by rw [hU]; exact hM.1, hK.moved hW, hM.2.1⟩⟩ rfl hn hsz hst (lv_room hcat) hdg hf) hM.2.2 (fun _ _ h => h) (fun _ h => h) (fun r u t H1 locs1 ht hvm hp hB hz hk hS => kk r u.1 u.2.1 u.2.2.1 u.2.2.2 H1 locs1 hp ⟨by rw [← ht]; exact hB.1, hB.2, hS⟩)
theorem mo_callv {y : MethodName} {b : ByteArray} {n np index fr lo : Nat} {r : Option FieldType} {av st : List Value} {post : MS → Prop} (hC : CallFix p m c cc nL s args GW R_Mo) (hK : KE D cT s) (hM : MO D cT ad I J a g H0 H locs) (hm : MMv l D cT ad y b n r fr lo av I J a g post) (hy : y.cls = R_Mo) (hw : Cond.methodLink R_Mo index y ∈ GW ∧ Cond.instanceMethod y ∈ GW ∧ Cond.selects y.cls y y ∈ GW ∧ Cond.code y b n r ∈ GW ∧ Cond.initialized y.cls ∈ GW) (hd : y.cls ≠ "java/lang/invoke/MethodHandle" ∧ y.cls ≠ "java/lang/invoke/VarHandle" ∧ (parseMethodDescriptor y.desc).map (fun d => d.parameters.length) = some np) (hR : fr + 1 ≤ RM.frames ∧ 8 + (n + 11) + lo ≤ RM.locals) (hsz : ls.size = nL) (hn : av.length = np) (hst : st = av.reverse ++ .ref (ad 46) :: rest) (hcat : (rest.map fun v => v.category).sum ≤ 8) (hf : cells ≤ RM.cells ∧ slots ≤ RM.slots) (hdg : decode cc pc = .ok (.invokevirtual index, 3))
    (kk : ∀ (I' : Nat → Int32) (J' : Nat → Int64) (a' : Nat → Nat → Int32) (g' : Nat → Nat → Int64) (H1 : Heap) (locs1 : List Loc), post (I', J', a', g') → MO D cT ad I' J' a' g' H0 H1 locs1 → W p l e RM s m args below meth c H1 locs1 cells slots Q (F0 m (pc + 3) ls rest)) : W p l e RM s m args below meth c H locs cells slots Q (F0 m pc ls st) :=
  va_callv (va_runV (As := av) (rest := rest) hC hm (cw_V hC.2.2.2.2 hw hd hR) ⟨mPc_blind, by rw [hy]; exact va_recv hK.1 hM.1 (ci := 12) (q0 := 0) rfl rfl, fun U hU hW => ⟨rfl, by rw [hU]; exact hM.1, hK.moved hW, hM.2.1⟩⟩ rfl hn hsz hst (lv_room hcat) hdg hf) hM.2.2 (fun _ _ h => h) (fun _ h => h) (fun u t H1 locs1 ht hvm hp hB hz hk hS => kk u.1 u.2.1 u.2.2.1 u.2.2.2 H1 locs1 hp ⟨by rw [← ht]; exact hB.1, hB.2, hS⟩)
end SG
