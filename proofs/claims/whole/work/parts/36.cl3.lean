/-! the class: forms. A text by its prefix rows (kd kinds, nb numbers); nxF the place behind a text, evF its span; FT: the cells of a world tell it -/
abbrev y_Fo_valueAt : MethodName := ⟨"SignSolids$Form", "valueAt", "(III)I"⟩
abbrev y_Fo_bound : MethodName := ⟨"SignSolids$Form", "bound", "(IIIIIIZ)I"⟩
def nxF (kd : Nat → Nat) : Nat → Nat → Nat
  | 0, k => k
  | d + 1, k => if kd k < 3 then k + 1 else if kd k < 6 then nxF kd d (nxF kd d (k + 1)) else nxF kd d (k + 1)
def evF (kd : Nat → Nat) (nb : Nat → Nat → Int) : Nat → Nat → (Nat → Int) → Int × Int
  | 0, _, _ => (0, 0)
  | d + 1, k, B => if kd k < 3 then (lfL (kd k) (nb k) B, lfH (kd k) (nb k) B) else if kd k < 6 then cmb (kd k) (evF kd nb d (k + 1) B) (evF kd nb d (nxF kd d (k + 1)) B) else evF kd nb d (k + 1) (dn (kd k) (nb k) B)
def FT (w : va_W) (kd : Nat → Nat) (nb : Nat → Nat → Int) : Nat → Nat → Nat → Prop
  | 0, _, _ => False
  | d + 1, k, r =>
    (kd k = 0 ∧ ∃ i : Nat, w[i]? = some (r, .inr (0, [.int (iI (nb k 0)), .int (iI (nb k 1)), .int (iI (nb k 2)), .int (iI (nb k 3))]))) ∨
    (kd k = 1 ∧ ∃ i : Nat, w[i]? = some (r, .inr (2, [.int (iI (nb k 0)), .int (iI (nb k 1)), .int (iI (nb k 2)), .int (iI (nb k 3)), .int (iI (nb k 4)), .int (iI (nb k 5))]))) ∨
    (kd k = 2 ∧ ∃ i : Nat, w[i]? = some (r, .inr (7, [.int (iI (nb k 0)), .int (iI (nb k 1)), .int (iI (nb k 2)), .int (iI (nb k 3))]))) ∨
    ((3 ≤ kd k ∧ kd k ≤ 5) ∧ ∃ i r1 r2 : Nat, w[i]? = some (r, .inr (5, [.int (nI (kd k)), .ref r1, .ref r2])) ∧ FT w kd nb d (k + 1) r1 ∧ FT w kd nb d (nxF kd d (k + 1)) r2) ∨
    ((6 ≤ kd k ∧ kd k ≤ 9) ∧ ∃ i r1 : Nat, w[i]? = some (r, .inr (6, [.int (nI (kd k)), .int (iI (nb k 0)), .int (iI (nb k 1)), .int (iI (nb k 2)), .ref r1])) ∧ FT w kd nb d (k + 1) r1)
theorem FT_mono {w w' : va_W} {kd : Nat → Nat} {nb : Nat → Nat → Int} (h : ∀ (i : Nat) (q : Nat × va_E), w[i]? = some q → ∃ i' : Nat, w'[i']? = some q) : ∀ (d k r : Nat), FT w kd nb d k r → FT w' kd nb d k r
  | 0, _, _, hf => hf
  | d + 1, k, r, hf => by
    rcases hf with ⟨h1, i, h2⟩ | ⟨h1, i, h2⟩ | ⟨h1, i, h2⟩ | ⟨h1, i, r1, r2, h2, h3, h4⟩ | ⟨h1, i, r1, h2, h3⟩
    · exact Or.inl ⟨h1, h i _ h2⟩
    · exact Or.inr (Or.inl ⟨h1, h i _ h2⟩)
    · exact Or.inr (Or.inr (Or.inl ⟨h1, h i _ h2⟩))
    · obtain ⟨i', h5⟩ := h i _ h2
      exact Or.inr (Or.inr (Or.inr (Or.inl ⟨h1, i', r1, r2, h5, FT_mono h d _ r1 h3, FT_mono h d _ r2 h4⟩)))
    · obtain ⟨i', h5⟩ := h i _ h2
      exact Or.inr (Or.inr (Or.inr (Or.inr ⟨h1, i', r1, h5, FT_mono h d _ r1 h3⟩)))
def PT6 (B : Nat → Int) : Prop := B 0 = B 1 ∧ B 2 = B 3 ∧ B 4 = B 5
theorem dn_pt {kd : Nat} {nb B : Nat → Int} (h : PT6 B) (hr : kd = 9 → 1 ≤ nb 0) : PT6 (dn kd nb B) := by
  obtain ⟨h0, h1, h2⟩ := h
  unfold PT6 dn
  by_cases e6 : kd = 6
  · simp [e6, h0, h1, h2]
  · by_cases e7 : kd = 7
    · simp only [if_neg e6, if_pos e7]
      exact ⟨h1, h2, h0⟩
    · by_cases e8 : kd = 8
      · simp only [if_neg e6, if_neg e7, if_pos e8]
        refine ⟨?_, ?_, ?_⟩ <;> simp [h0, h1, h2]
      · by_cases e9 : kd = 9
        · have := hr e9
          simp only [if_neg e6, if_neg e7, if_neg e8, if_pos e9]
          refine ⟨?_, ?_, ?_⟩
          · simp only [h0, if_true, show (1 : Nat) = 0 ↔ False from ⟨fun z => by omega, False.elim⟩, if_false]
            split
            · omega
            · rfl
          · simp [h1]
          · simp [h2]
        · simp only [if_neg e6, if_neg e7, if_neg e8, if_neg e9]
          exact ⟨h0, h1, h2⟩
theorem sq_pt (x m : Int) : sqL x x m = (x - m) * (x - m) ∧ sqH x x m = (x - m) * (x - m) := by
  refine ⟨?_, by unfold sqH; rw [if_neg (by omega)]⟩
  unfold sqL
  by_cases h : x = m
  · subst h
    rw [if_pos ⟨Int.le_refl _, Int.le_refl _⟩]
    simp
  · rw [if_neg (by omega), if_neg (by omega)]
theorem pr_pt (x c : Int) : prL x x c = c * x ∧ prH x x c = c * x := by
  unfold prL prH
  constructor <;> (split <;> rfl)
theorem lf_pt {kd : Nat} {nb B : Nat → Int} (h : PT6 B) : lfL kd nb B = lfH kd nb B := by
  obtain ⟨h0, h1, h2⟩ := h
  unfold lfL lfH
  rw [← h0, ← h1, ← h2]
  simp only [(sq_pt _ _).1, (sq_pt _ _).2, (pr_pt _ _).1, (pr_pt _ _).2]
theorem cmb_pt {kd : Nat} {p q : Int × Int} (h1 : p.1 = p.2) (h2 : q.1 = q.2) : (cmb kd p q).1 = (cmb kd p q).2 := by
  unfold cmb
  simp only [h1, h2]
def rpOk (kd : Nat → Nat) (nb : Nat → Nat → Int) : Prop := (∀ k i, -20 ≤ nb k i ∧ nb k i ≤ 20) ∧ ∀ k, kd k = 9 → 1 ≤ nb k 0
theorem ev_pt {kd : Nat → Nat} {nb : Nat → Nat → Int} (hr : rpOk kd nb) : ∀ (d k : Nat) (B : Nat → Int), PT6 B → (evF kd nb d k B).1 = (evF kd nb d k B).2
  | 0, _, _, _ => rfl
  | d + 1, k, B, h => by
    unfold evF
    split
    · exact lf_pt h
    · split
      · exact cmb_pt (ev_pt hr d _ B h) (ev_pt hr d _ B h)
      · exact ev_pt hr d _ _ (dn_pt h (hr.2 k))
theorem vb_0 : vb ((0 : Int), (0 : Int)) := ⟨⟨by show (-100000000 : Int) ≤ 0; omega, by show (0 : Int) ≤ 100000000; omega⟩, by show (-100000000 : Int) ≤ 0; omega, by show (0 : Int) ≤ 100000000; omega⟩
theorem ev_b {kd : Nat → Nat} {nb : Nat → Nat → Int} (hr : rpOk kd nb) (d : Nat) : ∀ (k : Nat) (B : Nat → Int), d ≤ 20 → (∀ i, -(1300 - 20 * (d : Int)) ≤ B i ∧ B i ≤ 1300 - 20 * (d : Int)) → vb (evF kd nb d k B) := by
  induction d with
  | zero => intro k B _ _; exact vb_0
  | succ d ih =>
    intro k B hd hB
    unfold evF
    split
    · exact lf_b (hr.1 k) (fun i => by have := hB i; omega)
    · split
      · exact cmb_b (ih _ B (by omega) (fun i => by have := hB i; omega)) (ih _ B (by omega) (fun i => by have := hB i; omega))
      · refine ih _ _ (by omega) (fun i => ?_)
        have := dn_b (kd := kd k) (nb := nb k) (B := B) (M := 1300 - 20 * ((d + 1 : Nat) : Int)) (by omega) (hr.1 k) (hr.2 k) hB i
        omega
theorem mx_as (x y z : Int) : mx (mx x y) z = mx x (mx y z) := by
  unfold mx
  (repeat' split) <;> omega
/-- a form on which an abstract method can be called -/
def VAc (l : Launch) (D : va_G) (cT : Nat → ClassId) (w : va_W) (x : MethodName) (fr lo r : Nat) (av : List Value) (post : Int32 → Prop) : Prop :=
  ∃ (i ci n : Nat) (fs : List Value) (vc : vw_C) (y : MethodName) (b : ByteArray), w[i]? = some (r, .inr (ci, fs)) ∧ classes[ci]? = some vc ∧ n ≤ 20 ∧ RDi l D cT w y b n (some .int) fr lo (.ref r :: av) post ∧ Cond.selects vc.1 x y ∈ GW ∧ Cond.instanceMethod y ∈ GW ∧ Cond.initialized y.cls ∈ GW ∧ Cond.code y b n (some .int) ∈ GW
section FO
variable {p : Program} {l : Launch} {e : Env} {RM : Room} {s : State} {m : MethodId} {args : Array Value} {below : List Frame} {meth : Method} {c : Code} {H H0 : Heap} {locs : List Loc} {cells slots : Nat} {Q : State → Prop} {cc : ByteArray} {pc nL : Nat} {ls : Array Slot} {rest : List Value} {own : String}
variable {D : va_G} {cT : Nat → ClassId} {w : va_W}
theorem fo_call {x : MethodName} {np index fr lo r : Nat} {av st : List Value} {post : Int32 → Prop} (hC : CallFix p m c cc nL s args GW own) (hK : KE D cT s) (hP : va_P D classes w H) (hv : VAc l D cT w x fr lo r av post) (hw : Cond.methodLink own index x ∈ GW ∧ Cond.sameMethod x.cls x.cls x.name x.desc ∈ GW) (hz : Cond.declares ⟨x.cls, x.name, x.desc⟩ ∈ NWl) (hd : x.cls ≠ "java/lang/invoke/MethodHandle" ∧ x.cls ≠ "java/lang/invoke/VarHandle" ∧ (parseMethodDescriptor x.desc).map (fun d => d.parameters.length) = some np) (hR : fr + 1 ≤ RM.frames ∧ 39 + lo ≤ RM.locals) (hsz : ls.size = nL) (hn : av.length = np) (hst : st = av.reverse ++ .ref r :: rest) (hcat : (rest.map fun v => v.category).sum ≤ 8) (hf : cells ≤ RM.cells ∧ slots ≤ RM.slots) (hdg : decode cc pc = .ok (.invokevirtual index, 3))
    (kk : ∀ r : Int32, post r → W p l e RM s m args below meth c H locs cells slots Q (F0 m (pc + 3) ls (.int r :: rest))) : W p l e RM s m args below meth c H locs cells slots Q (F0 m pc ls st) := by
  obtain ⟨i, ci, n, fs, vc, y, b, h1, h2, h3, h4, h5, h6, h7, h8⟩ := hv
  have hT : GoodIn GW (va_wsU own index vc.1 x.cls x y (wm y b n (some .int))) := by
    intro w' hw'
    unfold va_wsU at hw'
    rcases List.mem_append.mp hw' with h | h
    · simp only [List.mem_cons, List.not_mem_nil, or_false] at h
      have hg : w' ∈ GW := by
        rcases h with rfl | rfl | rfl | rfl | rfl
        · exact hw.1
        · exact hw.2
        · exact h5
        · exact h6
        · exact h7
      exact ⟨hg, gw_good hg⟩
    · exact gm h8 w' h
  exact vp_callSi (va_runU (As := av) (rest := rest) (x := x) (owner := x.cls) (C := vc.1) hC h4 (va_cwA np hC.2.2.2.2 hT rfl rfl rfl (hK.2.1 _ hz) hd ⟨hR.1, by show 8 + (n + 11) + lo ≤ _; omega⟩) ⟨rPc_blind, va_recv hK.1 hP h2 h1, fun U hU hW => ⟨rfl, by rw [hU]; exact hP, hK.moved hW⟩⟩ rfl hn hsz hst (lv_room hcat) hdg hf).run kk
end FO
