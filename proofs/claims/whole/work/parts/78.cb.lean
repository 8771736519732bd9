/-! the class: a body more, a body less -/
theorem arrV_cong {cA : ClassId} {N : Nat} {f g : Nat → Value} (h : ∀ j, j < N → f j = g j) : arrV cA N f = arrV cA N g := by
  have e : (fun j : Fin N => f j.val) = fun j : Fin N => g j.val := funext fun j => h j.val j.isLt
  show ({ cls := cA, slots := Array.ofFn (n := N) (fun j : Fin N => f j.val), vm := .none } : Cell) = { cls := cA, slots := Array.ofFn (n := N) (fun j : Fin N => g j.val), vm := .none }
  rw [e]
theorem at_q {D : va_G} {q n : Nat} {cA : ClassId} {f g : Nat → Option Nat} {H : Heap} (h : ∀ j, j < n → f j = g j) (ha : va_at D classes (q, .inl (cA, n, .inr (.inr (.inr (.inr f))))) H) : va_at D classes (q, .inl (cA, n, .inr (.inr (.inr (.inr g))))) H := by
  have ha : H[q]? = some (arrV cA n (fun j => va_rf (f j))) := ha
  show H[q]? = some (arrV cA n (fun j => va_rf (g j)))
  rw [ha, arrV_cong (fun j hj => by rw [h j hj])]
theorem NM_map {D : va_G} {A : Nat → Prop} {w w' : va_W} {H0 H : Heap} {locs : List Loc} (h : NM D A w H0 H locs) (ha : w'.map Prod.fst = w.map Prod.fst) (hp : ∀ q ∈ w', va_at D classes q H) : NM D A w' H0 H locs := by
  refine ⟨vaP_mem.mpr hp, vaD_mem.mpr ⟨by rw [ha]; exact (vaD_mem.mp h.2.1).1, fun q hq => ?_⟩, h.2.2⟩
  have h1 : q.1 ∈ w.map Prod.fst := by rw [← ha]; exact List.mem_map_of_mem hq
  obtain ⟨q', h2, h3⟩ := List.mem_map.mp h1
  rw [← h3]
  exact (vaD_mem.mp h.2.1).2 q' h2
theorem NM_subl {D : va_G} {A : Nat → Prop} {w w' : va_W} {H0 H : Heap} {locs : List Loc} (hs : w'.Sublist w) (h : NM D A w H0 H locs) : NM D A w' H0 H locs := ⟨vaP_mem.mpr (fun q hq => vaP_mem.mp h.1 q (hs.subset hq)), vaD_mem.mpr ⟨(vaD_mem.mp h.2.1).1.sublist (hs.map _), fun q hq => (vaD_mem.mp h.2.1).2 q (hs.subset hq)⟩, h.2.2⟩
/-- the class's own addresses with one body more -/
def XB (X : CX) (nb qb q1 q2 r : Nat) : CX := (fun k => if k = 18 + 3 * nb then qb else if k = 18 + 3 * nb + 1 then q1 else if k = 18 + 3 * nb + 2 then q2 else X.1 k, fun k => if k = 18 + 3 * nb then r else X.2.1 k, X.2.2.1, nb + 1, X.2.2.2.2)
def XR (X : CX) (f : Nat → Option Nat) : CX := (X.1, X.2.1, f, X.2.2.2.1, X.2.2.2.2)
def XN (X : CX) (n : Nat) : CX := (X.1, X.2.1, X.2.2.1, n, X.2.2.2.2)
def IB (I : Nat → Int32) (nb : Nat) (tx : Int32) : Nat → Int32 := upd (upd (upd I (10 * (18 + 3 * nb) + 1) tx) (10 * (18 + 3 * nb) + 3) 0) (10 * (18 + 3 * nb) + 5) 0
def aB (a : Nat → Nat → Int32) (nb : Nat) : Nat → Nat → Int32 := va_up (va_up a (18 + 3 * nb + 1) (fun _ => 0)) (18 + 3 * nb + 2) (fun _ => 0)
def B3 (cT : Nat → ClassId) (qb q1 q2 r : Nat) (tx : Int32) : va_W := [(qb, .inr (1, [.ref r, .int tx, .ref q1, .int 0, .ref q2, .int 0])), (q1, .inl (cT 0, 225, .inl (fun _ => 0))), (q2, .inl (cT 0, 5, .inl (fun _ => 0)))]
section XBS
variable {cT : Nat → ClassId} {X : CX} {I : Nat → Int32} {a : Nat → Nat → Int32} {nb qb q1 q2 r : Nat} {tx : Int32}
theorem XB_lt {k : Nat} (h : k < 18 + 3 * nb) : (XB X nb qb q1 q2 r).1 k = X.1 k := by
  show (if k = 18 + 3 * nb then qb else if k = 18 + 3 * nb + 1 then q1 else if k = 18 + 3 * nb + 2 then q2 else X.1 k) = X.1 k
  rw [if_neg (by omega), if_neg (by omega), if_neg (by omega)]
theorem XB_f {k : Nat} (h : k < 18 + 3 * nb) : (XB X nb qb q1 q2 r).2.1 k = X.2.1 k := if_neg (by omega)
theorem XB_0 : (XB X nb qb q1 q2 r).1 (18 + 3 * nb) = qb := if_pos rfl
theorem XB_1 : (XB X nb qb q1 q2 r).1 (18 + 3 * nb + 1) = q1 := (if_neg (by omega)).trans (if_pos rfl)
theorem XB_2 : (XB X nb qb q1 q2 r).1 (18 + 3 * nb + 2) = q2 := (if_neg (by omega)).trans ((if_neg (by omega)).trans (if_pos rfl))
theorem XB_r : (XB X nb qb q1 q2 r).2.1 (18 + 3 * nb) = r := if_pos rfl
theorem IB_lt {k : Nat} (h : k < 10 * (18 + 3 * nb) + 1) : IB I nb tx k = I k := by
  unfold IB
  rw [pk_un (by omega), pk_un (by omega), pk_un (by omega)]
theorem aB_lt {k : Nat} (h : k < 18 + 3 * nb + 1) : aB a nb k = a k := by
  unfold aB
  rw [va_up_ne _ _ (by omega), va_up_ne _ _ (by omega)]

theorem cE_XB {k : Nat} (hk : k < 18 + 3 * nb) (h9 : k ≠ 9) : cE cT (XB X nb qb q1 q2 r) (IB I nb tx) (aB a nb) k = cE cT X I a k := by
  by_cases h18 : k < 18
  · rcases (show k = 0 ∨ k = 1 ∨ k = 2 ∨ k = 3 ∨ k = 4 ∨ k = 5 ∨ k = 6 ∨ k = 7 ∨ k = 8 ∨ k = 10 ∨ k = 11 ∨ k = 12 ∨ k = 13 ∨ k = 14 ∨ k = 15 ∨ k = 16 ∨ k = 17 by omega) with rfl | rfl | rfl | rfl | rfl | rfl | rfl | rfl | rfl | rfl | rfl | rfl | rfl | rfl | rfl | rfl | rfl
    · rw [cE_0, cE_0, XB_lt (k := 1) (by omega), XB_lt (k := 3) (by omega), XB_lt (k := 4) (by omega), XB_lt (k := 5) (by omega), XB_lt (k := 9) (by omega), IB_lt (k := 3) (by omega), IB_lt (k := 4) (by omega)]
    · rw [cE_1, cE_1, XB_lt (k := 2) (by omega), IB_lt (k := 11) (by omega)]
    · rw [cE_2, cE_2, aB_lt (k := 2) (by omega)]
    · rw [cE_3, cE_3, XB_lt (k := 1) (by omega), IB_lt (k := 31) (by omega), IB_lt (k := 32) (by omega), IB_lt (k := 33) (by omega), IB_lt (k := 34) (by omega), IB_lt (k := 35) (by omega), IB_lt (k := 36) (by omega), IB_lt (k := 37) (by omega)]
    · rw [cE_4, cE_4]; rfl
    · rw [cE_5, cE_5, XB_lt (k := 6) (by omega), XB_lt (k := 7) (by omega), XB_lt (k := 8) (by omega), IB_lt (k := 51) (by omega), IB_lt (k := 54) (by omega), IB_lt (k := 55) (by omega), IB_lt (k := 56) (by omega)]
    · rw [cE_6, cE_6, aB_lt (k := 6) (by omega)]
    · rw [cE_7, cE_7, aB_lt (k := 7) (by omega)]
    · rw [cE_8, cE_8, aB_lt (k := 8) (by omega)]
    · rw [show cE cT (XB X nb qb q1 q2 r) (IB I nb tx) (aB a nb) 10 = .inr (9, [.ref ((XB X nb qb q1 q2 r).1 11), .int (IB I nb tx 101), .int (IB I nb tx 102)]) from rfl, show cE cT X I a 10 = .inr (9, [.ref (X.1 11), .int (I 101), .int (I 102)]) from rfl, XB_lt (k := 11) (by omega), IB_lt (k := 101) (by omega), IB_lt (k := 102) (by omega)]
    · rw [show cE cT (XB X nb qb q1 q2 r) (IB I nb tx) (aB a nb) 11 = .inl (cT 0, 64, .inl (aB a nb 11)) from rfl, show cE cT X I a 11 = .inl (cT 0, 64, .inl (a 11)) from rfl, aB_lt (k := 11) (by omega)]
    · rw [show cE cT (XB X nb qb q1 q2 r) (IB I nb tx) (aB a nb) 12 = .inr (9, [.ref ((XB X nb qb q1 q2 r).1 13), .int (IB I nb tx 121), .int (IB I nb tx 122)]) from rfl, show cE cT X I a 12 = .inr (9, [.ref (X.1 13), .int (I 121), .int (I 122)]) from rfl, XB_lt (k := 13) (by omega), IB_lt (k := 121) (by omega), IB_lt (k := 122) (by omega)]
    · rw [show cE cT (XB X nb qb q1 q2 r) (IB I nb tx) (aB a nb) 13 = .inl (cT 0, 64, .inl (aB a nb 13)) from rfl, show cE cT X I a 13 = .inl (cT 0, 64, .inl (a 13)) from rfl, aB_lt (k := 13) (by omega)]
    · rw [show cE cT (XB X nb qb q1 q2 r) (IB I nb tx) (aB a nb) 14 = .inr (9, [.ref ((XB X nb qb q1 q2 r).1 15), .int (IB I nb tx 141), .int (IB I nb tx 142)]) from rfl, show cE cT X I a 14 = .inr (9, [.ref (X.1 15), .int (I 141), .int (I 142)]) from rfl, XB_lt (k := 15) (by omega), IB_lt (k := 141) (by omega), IB_lt (k := 142) (by omega)]
    · rw [show cE cT (XB X nb qb q1 q2 r) (IB I nb tx) (aB a nb) 15 = .inl (cT 0, 64, .inl (aB a nb 15)) from rfl, show cE cT X I a 15 = .inl (cT 0, 64, .inl (a 15)) from rfl, aB_lt (k := 15) (by omega)]
    · rw [show cE cT (XB X nb qb q1 q2 r) (IB I nb tx) (aB a nb) 16 = .inr (9, [.ref ((XB X nb qb q1 q2 r).1 17), .int (IB I nb tx 161), .int (IB I nb tx 162)]) from rfl, show cE cT X I a 16 = .inr (9, [.ref (X.1 17), .int (I 161), .int (I 162)]) from rfl, XB_lt (k := 17) (by omega), IB_lt (k := 161) (by omega), IB_lt (k := 162) (by omega)]
    · rw [show cE cT (XB X nb qb q1 q2 r) (IB I nb tx) (aB a nb) 17 = .inl (cT 0, 64, .inl (aB a nb 17)) from rfl, show cE cT X I a 17 = .inl (cT 0, 64, .inl (a 17)) from rfl, aB_lt (k := 17) (by omega)]
  · obtain ⟨b, c, hb, hc⟩ : ∃ b c : Nat, k = 18 + 3 * b + c ∧ c < 3 := ⟨(k - 18) / 3, (k - 18) % 3, by omega, by omega⟩
    rcases (show c = 0 ∨ c = 1 ∨ c = 2 by omega) with rfl | rfl | rfl
    · subst hb
      rw [Nat.add_zero, cE_B, cE_B, XB_f (by omega), XB_lt (by omega), XB_lt (by omega), IB_lt (by omega), IB_lt (by omega), IB_lt (by omega)]
    · subst hb
      rw [cE_C, cE_C, aB_lt (by omega)]
    · subst hb
      rw [cE_D, cE_D, aB_lt (by omega)]
theorem rg3 {α : Type} (F : Nat → α) (n : Nat) : (List.range (n + 3)).map F = (List.range n).map F ++ [F n, F (n + 1), F (n + 2)] := by
  rw [show n + 3 = n + 1 + 1 + 1 from rfl, List.range_succ, List.range_succ, List.range_succ]
  simp
theorem cb_new {D : va_G} {A : Nat → Prop} {H0 H : Heap} {locs : List Loc} (hX : X.2.2.2.1 = nb) (hM : NM D A (cw cT X I a ++ B3 cT qb q1 q2 r tx) H0 H locs) : NM D A (cw cT (XB X nb qb q1 q2 r) (IB I nb tx) (aB a nb)) H0 H locs := by
  have e0 : cE cT (XB X nb qb q1 q2 r) (IB I nb tx) (aB a nb) (18 + 3 * nb) = .inr (1, [.ref r, .int tx, .ref q1, .int 0, .ref q2, .int 0]) := by
    rw [cE_B, XB_r, XB_1, XB_2]
    unfold IB
    rw [pk_un (k := 10 * (18 + 3 * nb) + 5) (j := 10 * (18 + 3 * nb) + 1) (by omega), pk_un (k := 10 * (18 + 3 * nb) + 3) (j := 10 * (18 + 3 * nb) + 1) (by omega), pk_us, pk_un (k := 10 * (18 + 3 * nb) + 5) (j := 10 * (18 + 3 * nb) + 3) (by omega), pk_us, pk_us]
  have e1 : cE cT (XB X nb qb q1 q2 r) (IB I nb tx) (aB a nb) (18 + 3 * nb + 1) = .inl (cT 0, 225, .inl (fun _ => 0)) := by
    rw [cE_C]
    unfold aB
    rw [va_up_ne _ _ (by omega), va_up_self]
  have e2 : cE cT (XB X nb qb q1 q2 r) (IB I nb tx) (aB a nb) (18 + 3 * nb + 2) = .inl (cT 0, 5, .inl (fun _ => 0)) := by
    rw [cE_D]
    unfold aB
    rw [va_up_self]
  have hw : cw cT (XB X nb qb q1 q2 r) (IB I nb tx) (aB a nb) = (List.range (18 + 3 * nb)).map (fun k => ((XB X nb qb q1 q2 r).1 k, cE cT (XB X nb qb q1 q2 r) (IB I nb tx) (aB a nb) k)) ++ B3 cT qb q1 q2 r tx ++ X.2.2.2.2 := by
    show (List.range (18 + 3 * (nb + 1))).map _ ++ X.2.2.2.2 = _
    rw [show 18 + 3 * (nb + 1) = 18 + 3 * nb + 3 by omega, rg3, e0, e1, e2, XB_0, XB_1, XB_2]
    rfl
  have hp : (cw cT X I a ++ B3 cT qb q1 q2 r tx).Perm ((List.range (18 + 3 * nb)).map (fun k => (X.1 k, cE cT X I a k)) ++ B3 cT qb q1 q2 r tx ++ X.2.2.2.2) := by
    unfold cw
    rw [hX, List.append_assoc, List.append_assoc]
    exact List.Perm.append_left _ List.perm_append_comm
  have hM2 := NM_perm hp hM
  rw [hw]
  refine NM_map hM2 ?_ (fun q hq => ?_)
  · rw [List.map_append, List.map_append, List.map_append, List.map_append, List.map_map, List.map_map]
    congr 2
    refine List.map_congr_left (fun k hk => ?_)
    exact XB_lt (r := r) (List.mem_range.mp hk)
  · rcases List.mem_append.mp hq with hq | hq
    · rcases List.mem_append.mp hq with hq | hq
      · obtain ⟨k, hk, rfl⟩ := List.mem_map.mp hq
        have hk := List.mem_range.mp hk
        have hin := vaP_mem.mp hM2.1 (X.1 k, cE cT X I a k) (List.mem_append_left _ (List.mem_append_left _ (List.mem_map.mpr ⟨k, List.mem_range.mpr hk, rfl⟩)))
        show va_at D classes ((XB X nb qb q1 q2 r).1 k, cE cT (XB X nb qb q1 q2 r) (IB I nb tx) (aB a nb) k) H
        rw [XB_lt hk]
        by_cases h9 : k = 9
        · subst h9
          rw [cE_9] at hin ⊢
          exact at_q (fun j hj => by rw [XB_lt (by omega)]) hin
        · rw [cE_XB hk h9]
          exact hin
      · exact vaP_mem.mp hM2.1 q (List.mem_append_left _ (List.mem_append_right _ hq))
    · exact vaP_mem.mp hM2.1 q (List.mem_append_right _ hq)
theorem cE_XR {f : Nat → Option Nat} {k : Nat} (h : k ≠ 4) : cE cT (XR X f) I a k = cE cT X I a k := by
  unfold cE
  have h4 : sK k ≠ 4 := by
    unfold sK
    split
    · exact h
    · split <;> omega
  split <;> first | rfl | (exfalso; omega)
theorem cw_set4 {f : Nat → Option Nat} : (cw cT X I a).set 4 (X.1 4, .inl (cT 4, 8, .inr (.inr (.inr (.inr f))))) = cw cT (XR X f) I a := by
  show ((List.range (18 + 3 * X.2.2.2.1)).map (fun k => (X.1 k, cE cT X I a k)) ++ X.2.2.2.2).set 4 _ = (List.range (18 + 3 * X.2.2.2.1)).map (fun k => (X.1 k, cE cT (XR X f) I a k)) ++ X.2.2.2.2
  rw [List.set_append_left _ _ (by simp; omega)]
  congr 1
  exact map_set_at (fun k => (X.1 k, cE cT X I a k)) (fun k => (X.1 k, cE cT (XR X f) I a k)) _ 4 (fun j hj => by simp only [cE_XR hj])
theorem cb_drop {D : va_G} {A : Nat → Prop} {H0 H : Heap} {locs : List Loc} {n : Nat} (hn : n ≤ X.2.2.2.1) (hM : NM D A (cw cT X I a) H0 H locs) : NM D A (cw cT (XN X n) I a) H0 H locs := by
  refine NM_subl ?_ hM
  show ((List.range (18 + 3 * n)).map (fun k => (X.1 k, cE cT X I a k)) ++ X.2.2.2.2).Sublist ((List.range (18 + 3 * X.2.2.2.1)).map (fun k => (X.1 k, cE cT X I a k)) ++ X.2.2.2.2)
  refine List.Sublist.append (List.Sublist.map _ (List.range_sublist.mpr (by omega))) (List.Sublist.refl _)
end XBS
