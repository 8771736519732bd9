/-! the start: what the tables and the given words say of the classes and the strings; the two new objects -/
theorem arr_k {ty : FieldType} {s : State} {A : Array Value} (hp : ∀ C, ty ≠ .object C) (h : (Cond.arrayClass ty).before A s = true) : ∃ cA, ArrOfT s cA ty ∧ va_RA s cA ty := by
  obtain ⟨cA, kA, comp, h1, h2, h3⟩ := Cond.arrayClass_spec h
  refine ⟨cA, fun n z => ⟨fun k h => (by cases h), kA, h2, comp, h3⟩, ?_⟩
  cases ty with
  | object C => exact absurd rfl (hp C)
  | _ => exact h1
theorem arr_o {C : String} {s : State} (h : va_AO C s) : ∃ cA, ArrOfT s cA (.object C) ∧ va_RA s cA (.object C) := by
  obtain ⟨comp, cA, kA, h1, h2, h3, h4, h5⟩ := Cond.arrayOver_spec h
  exact ⟨cA, fun n z => ⟨fun k h => (by cases h), kA, h3, comp, h4⟩, kA, comp, h3, h4, h1, h5⟩
theorem ao_Bo : Cond.arrayOver (.object "SignSolids$Body") ∈ lw_tbl := by decide +kernel
theorem ao_Sh : Cond.arrayOver (.object "SignSolids$Sheet") ∈ lw_tbl := by decide +kernel
theorem start_KE {s : State} {b : Nat} (hts : ∀ w ∈ lw_tbl, w.before #[Value.ref b] s = true) : ∃ (D : va_G) (cT : Nat → ClassId), KE D cT s := by
  have hg : ∀ w ∈ GW, w.before #[Value.ref b] s = true := fun w h => hts w (List.mem_filter.mp h).1
  obtain ⟨c0, i0, k0⟩ := u_known (C := R_Ba) (T := F_Ba) (N := 4) (n := 4) hg in_Ba (hg _ wz_Ba)
  obtain ⟨c1, i1, k1⟩ := u_known (C := R_Bo) (T := F_Bo) (N := 6) (n := 6) hg in_Bo (hg _ wz_Bo)
  obtain ⟨c2, i2, k2⟩ := u_known (C := R_Bx) (T := F_Bx) (N := 6) (n := 6) hg in_Bx (hg _ wz_Bx)
  obtain ⟨c3, i3, k3⟩ := u_known (C := R_Fl) (T := F_Fl) (N := 7) (n := 7) hg in_Fl (hg _ wz_Fl)
  obtain ⟨c5, i5, k5⟩ := u_known (C := R_Pa) (T := F_Pa) (N := 3) (n := 3) hg in_Pa (hg _ wz_Pa)
  obtain ⟨c6, i6, k6⟩ := u_known (C := R_Pl) (T := F_Pl) (N := 5) (n := 5) hg in_Pl (hg _ wz_Pl)
  obtain ⟨c7, i7, k7⟩ := u_known (C := R_Pn) (T := F_Pn) (N := 4) (n := 4) hg in_Pn (hg _ wz_Pn)
  obtain ⟨c8, i8, k8⟩ := u_known (C := R_Rd) (T := F_Rd) (N := 8) (n := 8) hg in_Rd (hg _ wz_Rd)
  obtain ⟨c9, i9, k9⟩ := u_known (C := R_Sh) (T := F_Sh) (N := 3) (n := 3) hg in_Sh (hg _ wz_Sh)
  obtain ⟨c10, i10, k10⟩ := u_known (C := R_Tp) (T := F_Tp) (N := 2) (n := 2) hg in_Tp (hg _ wz_Tp)
  obtain ⟨c11, i11, k11⟩ := u_known (C := R_So) (T := F_So) (N := 7) (n := 7) hg in_So (hg _ wz_So)
  obtain ⟨c12, i12, k12⟩ := u_known (C := R_Mo) (T := F_Mo) (N := 46) (n := 46) hg in_Mo (hg _ wz_Mo)
  obtain ⟨a0, p0, r0⟩ := arr_k (fun _ h => (by cases h)) (hg _ wa_int)
  obtain ⟨a1, p1, r1⟩ := arr_k (fun _ h => (by cases h)) (hg _ wa_long)
  obtain ⟨a2, p2, r2⟩ := arr_k (fun _ h => (by cases h)) (hg _ wa_boolean)
  obtain ⟨a3, p3, r3⟩ := arr_k (fun _ h => (by cases h)) (hg _ wa_byte)
  have o4 : va_AO "SignSolids$Body" s := va_AO.of (hts _ ao_Bo)
  have o5 : va_AO "SignSolids$Sheet" s := va_AO.of (hts _ ao_Sh)
  obtain ⟨a4, p4, r4⟩ := arr_o o4
  obtain ⟨a5, p5, r5⟩ := arr_o o5
  refine ⟨(fun k => [c0, c1, c2, c3, c0, c5, c6, c7, c8, c9, c10, c11, c12].getD k c0, fun k => [i0, i1, i2, i3, i0, i5, i6, i7, i8, i9, i10, i11, i12].getD k i0), fun k => [a0, a1, a2, a3, a4, a5].getD k a0, ⟨?_, ?_⟩, fun w hw => va_Nw.of (nw_tabs w hw) (hts w (NWl_in w hw)), o4, o5⟩
  · intro k q hq
    match k, hq with
    | 0, hq => cases hq; exact k0
    | 1, hq => cases hq; exact k1
    | 2, hq => cases hq; exact k2
    | 3, hq => cases hq; exact k3
    | 4, hq => cases hq; exact k0
    | 5, hq => cases hq; exact k5
    | 6, hq => cases hq; exact k6
    | 7, hq => cases hq; exact k7
    | 8, hq => cases hq; exact k8
    | 9, hq => cases hq; exact k9
    | 10, hq => cases hq; exact k10
    | 11, hq => cases hq; exact k11
    | 12, hq => cases hq; exact k12
    | k + 13, hq => simp [classes] at hq
  · intro k q hq
    match k, hq with
    | 0, hq => cases hq; exact ⟨p0, r0⟩
    | 1, hq => cases hq; exact ⟨p1, r1⟩
    | 2, hq => cases hq; exact ⟨p2, r2⟩
    | 3, hq => cases hq; exact ⟨p3, r3⟩
    | 4, hq => cases hq; exact ⟨p4, r4⟩
    | 5, hq => cases hq; exact ⟨p5, r5⟩
    | k + 6, hq => simp [tysL] at hq
/-! the String constants -/
def stm (i : Nat) : Term := Term.string R_Rd (sent.getD i 0)
def fl1 : List Cond := flatC (Jvm.Cond.and given_1 narrow_1)
theorem sf_ex : ∀ i, i < 10 → Cond.exactly (stm i) "java/lang/String" ∈ fl1 := by decide +kernel
theorem sf_co : ∀ i, i < 10 → Cond.eq (.field (stm i) "java/lang/String" "coder" "B") (.int 0) ∈ fl1 := by decide +kernel
theorem sf_ar : ∀ i, i < 10 → Cond.arrayOf (.field (stm i) "java/lang/String" "value" "[B") .byte ∈ fl1 := by decide +kernel
theorem sf_le : ∀ i, i < 10 → Cond.eq (.length (.field (stm i) "java/lang/String" "value" "[B")) (.int (Int32.ofNat (slen.getD i 0))) ∈ fl1 := by decide +kernel
theorem sf_el : ∀ i, i < 10 → ∀ j, j < slen.getD i 0 → Cond.eq (.elem (.field (stm i) "java/lang/String" "value" "[B") (.int (Int32.ofNat j))) (.int ((sbyt.getD i []).getD j 0)) ∈ fl1 := by decide +kernel
theorem sf_ne : ∀ i, i < 10 → ∀ j, j < 10 → i ≠ j → Cond.not (Cond.eq (stm i) (stm j)) ∈ fl1 ∨ Cond.not (Cond.eq (stm j) (stm i)) ∈ fl1 := by decide +kernel
theorem sf_cs : Cond.eq (.static R_St "COMPACT_STRINGS" "Z") (.int 1) ∈ fl1 := by decide +kernel
theorem sf_fm : Cond.isRef (.static R_Pr "SIOOBE_FORMATTER" "Ljava/util/function/BiFunction;") ∈ fl1 := by decide +kernel
theorem st_rf : ∀ i, i < 10 → Cond.stringRef R_Rd (sent.getD i 0) (stx.getD i "") ∈ lw_tbl := by decide +kernel
theorem st_l1 : Cond.laysStatic R_St "COMPACT_STRINGS" "Z" ∈ lw_tbl := by decide +kernel
theorem st_l2 : Cond.laysStatic R_Pr "SIOOBE_FORMATTER" "Ljava/util/function/BiFunction;" ∈ lw_tbl := by decide +kernel
theorem st_i1 : Cond.initialized R_St ∈ lw_tbl := by decide +kernel
theorem st_i2 : Cond.initialized R_Pr ∈ lw_tbl := by decide +kernel
theorem start_SE {s : State} {b : Nat} (hts : ∀ w ∈ lw_tbl, w.before #[Value.ref b] s = true) (hgv : (Jvm.Cond.and given_1 narrow_1).before #[Value.ref b] s = true) : ∃ adK adV : Nat → Nat, SE adK adV s.heap.size s := by
  have hs : ∀ w ∈ fl1, w.before #[Value.ref b] s = true := flat_of_before _ hgv
  have hA : ∀ a : Nat, a < s.heap.size → ¬ (fun q => s.heap.size ≤ q) a := fun a h => Nat.not_le.mpr h
  have h31 : ∀ i : Nat, i < 10 → slen.getD i 0 < 2 ^ 31 := by decide
  obtain ⟨adK, adV, h1, h2⟩ := vk_Sof (args := #[Value.ref b]) (s := s) (N := 10) (tm := stm) (len := slen) (byt := sbyt) (A := fun q => s.heap.size ≤ q) h31 (fun i hi => hs _ (sf_ex i hi)) (fun i hi => hs _ (sf_co i hi)) (fun i hi => hs _ (sf_ar i hi)) (fun i hi => hs _ (sf_le i hi)) (fun i hi j hj => hs _ (sf_el i hi j hj)) (fun i j hi hj hij => (sf_ne i hi j hj hij).elim (fun h => Or.inl (hs _ h)) (fun h => Or.inr (hs _ h))) hA
  exact ⟨adK, adV, Nat.le_refl _, h1, fun i hi => vk_R.of (hts _ (st_rf i hi)) (h2 i hi), va_Zof (hts _ st_l1) (hts _ st_i1) (va_eqt (hs _ sf_cs)) hA, va_Zqof (hts _ st_l2) (hts _ st_i2) (hs _ sf_fm) hA⟩
/-! the new objects -/
def X00 (xs : List Nat) : CX := (fun k => xs.getD k 0, fun _ => 0, fun _ => none, 0, [])
def I00 : Nat → Int32 := upd (upd (upd (upd (fun _ => 0) 101 (-1)) 121 (-1)) 141 (-1)) 161 (-1)
def a00 : Nat → Nat → Int32 := fun _ _ => 0
def ad00 (q : Nat) (xs : List Nat) (k : Nat) : Nat := if k ∈ mArr then xs.getD (mArr.idxOf k) 0 else q
def am00 : Nat → Nat → Int32 := va_up (fun _ _ => 0) 43 (upd (upd (upd (upd (fun _ => 0) 0 (-4)) 1 (-4)) 2 (-4)) 3 (-4))
theorem AdOk00 (q : Nat) (xs : List Nat) : AdOk (ad00 q xs) := fun k _ => by
  by_cases h : k ∈ mArr
  · exact Or.inl h
  · refine Or.inr ?_
    unfold ad00
    rw [if_neg h, if_neg (by decide)]
set_option maxRecDepth 100000 in
theorem so_world {D : va_G} {cT : Nat → ClassId} {A : Nat → Prop} {H0 H : Heap} {locs : List Loc} {q x1 x2 x3 x4 x5 x6 x7 x8 x9 x10 x11 x12 x13 x14 x15 x16 x17 : Nat} (hM : NM D A [(q, .inr (11, [.ref x1, .ref x3, .ref x4, .int 0, .int 0, .ref x5, .ref x9])), (x1, .inr (10, [.ref x2, .int 0])), (x2, .inl (cT 3, 160, .inl (fun _ => 0))), (x3, .inr (8, [.ref x1, .int 0, .int 0, .int 0, .int 0, .int 0, .int 0, .int 0])), (x4, .inl (cT 4, 8, .inr (.inr (.inr (.inr (fun _ => none)))))), (x5, .inr (3, [.ref x6, .int 0, .ref x7, .ref x8, .int 0, .int 0, .int 0])), (x6, .inl (cT 0, 225, .inl (fun _ => 0))), (x7, .inl (cT 0, 225, .inl (fun _ => 0))), (x8, .inl (cT 0, 225, .inl (fun _ => 0))), (x9, .inl (cT 5, 4, .inr (.inr (.inr (.inr (va_up (va_up (va_up (va_up (fun _ => none) 0 (some x10)) 1 (some x12)) 2 (some x14)) 3 (some x16))))))), (x10, .inr (9, [.ref x11, .int (-1), .int 0])), (x11, .inl (cT 0, 64, .inl (fun _ => 0))), (x12, .inr (9, [.ref x13, .int (-1), .int 0])), (x13, .inl (cT 0, 64, .inl (fun _ => 0))), (x14, .inr (9, [.ref x15, .int (-1), .int 0])), (x15, .inl (cT 0, 64, .inl (fun _ => 0))), (x16, .inr (9, [.ref x17, .int (-1), .int 0])), (x17, .inl (cT 0, 64, .inl (fun _ => 0)))] H0 H locs) : NM D A (cw cT (X00 [q, x1, x2, x3, x4, x5, x6, x7, x8, x9, x10, x11, x12, x13, x14, x15, x16, x17]) I00 a00) H0 H locs := by
  refine NM_map hM rfl (fun z hz => ?_)
  have h9 := vaP_mem.mp hM.1 (x9, .inl (cT 5, 4, .inr (.inr (.inr (.inr (va_up (va_up (va_up (va_up (fun _ => none) 0 (some x10)) 1 (some x12)) 2 (some x14)) 3 (some x16))))))) (List.mem_of_getElem? (i := 9) rfl)
  obtain ⟨k, hk⟩ := List.getElem?_of_mem hz
  by_cases e : k = 9
  · subst e
    have hz9 : z = (x9, .inl (cT 5, 4, .inr (.inr (.inr (.inr (fun j => some ((X00 [q, x1, x2, x3, x4, x5, x6, x7, x8, x9, x10, x11, x12, x13, x14, x15, x16, x17]).1 (10 + 2 * j)))))))) := (Option.some.inj hk).symm
    rw [hz9]
    refine at_q (fun j hj => ?_) h9
    rcases (show j = 0 ∨ j = 1 ∨ j = 2 ∨ j = 3 by omega) with rfl | rfl | rfl | rfl <;> rfl
  · refine vaP_mem.mp hM.1 z (List.mem_of_getElem? (i := k) (Eq.trans ?_ hk))
    have hk18 : k < 18 := (List.getElem?_eq_some_iff.mp hk).1
    rcases (show k = 0 ∨ k = 1 ∨ k = 2 ∨ k = 3 ∨ k = 4 ∨ k = 5 ∨ k = 6 ∨ k = 7 ∨ k = 8 ∨ k = 10 ∨ k = 11 ∨ k = 12 ∨ k = 13 ∨ k = 14 ∨ k = 15 ∨ k = 16 ∨ k = 17 by omega) with rfl | rfl | rfl | rfl | rfl | rfl | rfl | rfl | rfl | rfl | rfl | rfl | rfl | rfl | rfl | rfl | rfl <;> rfl
theorem LI_00 {xs : List Nat} : LI (X00 xs) I00 a00 (fun _ => 0) am00 := by
  refine ⟨0, fun _ => (0, fun _ => 0, fun _ _ => 0, fun _ => 0), 0, fun _ => 0, 0, fun _ => -1, fun _ => 0, fun _ _ => 0, ⟨⟨rfl, rfl, by decide, fun b h => absurd h (by omega), fun b h => absurd h (by omega)⟩, ⟨⟨0, 0, 0, rfl, rfl, rfl⟩, fun q _ => rfl⟩, ⟨rfl, by decide, fun j h => absurd h (by omega)⟩, rfl, fun j hj => ?_⟩, rfl, fun b h => absurd h (by omega), ⟨rfl, by decide, fun j h => absurd h (by omega)⟩, rfl, fun j hj => ?_⟩
  · rcases (show j = 0 ∨ j = 1 ∨ j = 2 ∨ j = 3 by omega) with rfl | rfl | rfl | rfl <;> exact ⟨rfl, ⟨rfl, by decide⟩, fun i _ => rfl⟩
  · rcases (show j = 0 ∨ j = 1 ∨ j = 2 ∨ j = 3 by omega) with rfl | rfl | rfl | rfl <;> exact ⟨Or.inl rfl, rfl, rfl, fun i _ => rfl⟩
