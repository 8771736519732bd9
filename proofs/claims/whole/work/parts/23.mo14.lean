/-! pieces that hang together: pure -/
theorem sd_sym {x w : Nat} (hx : x < 3375) (hw : w < 6) (h : sdv x w < 3375) : ∃ w', w' < 6 ∧ sdv (sdv x w) w' = x := by
  rcases (show w = 0 ∨ w = 1 ∨ w = 2 ∨ w = 3 ∨ w = 4 ∨ w = 5 by omega) with rfl | rfl | rfl | rfl | rfl | rfl
  · refine ⟨1, by decide, ?_⟩
    have e : sdv x 0 = if 0 < x % 15 then x - 1 else 9999 := rfl
    by_cases q : 0 < x % 15
    · rw [e, if_pos q]
      show (if (x - 1) % 15 < 14 then x - 1 + 1 else 9999) = x
      rw [if_pos (by omega)]; omega
    · rw [e, if_neg q] at h; omega
  · refine ⟨0, by decide, ?_⟩
    have e : sdv x 1 = if x % 15 < 14 then x + 1 else 9999 := rfl
    by_cases q : x % 15 < 14
    · rw [e, if_pos q]
      show (if 0 < (x + 1) % 15 then x + 1 - 1 else 9999) = x
      rw [if_pos (by omega)]; omega
    · rw [e, if_neg q] at h; omega
  · refine ⟨3, by decide, ?_⟩
    have e : sdv x 2 = if 0 < x / 15 % 15 then x - 15 else 9999 := rfl
    by_cases q : 0 < x / 15 % 15
    · rw [e, if_pos q]
      show (if (x - 15) / 15 % 15 < 14 then x - 15 + 15 else 9999) = x
      rw [if_pos (by omega)]; omega
    · rw [e, if_neg q] at h; omega
  · refine ⟨2, by decide, ?_⟩
    have e : sdv x 3 = if x / 15 % 15 < 14 then x + 15 else 9999 := rfl
    by_cases q : x / 15 % 15 < 14
    · rw [e, if_pos q]
      show (if 0 < (x + 15) / 15 % 15 then x + 15 - 15 else 9999) = x
      rw [if_pos (by omega)]; omega
    · rw [e, if_neg q] at h; omega
  · refine ⟨5, by decide, ?_⟩
    have e : sdv x 4 = if 0 < x / 225 then x - 225 else 9999 := rfl
    by_cases q : 0 < x / 225
    · rw [e, if_pos q]
      show (if (x - 225) / 225 < 14 then x - 225 + 225 else 9999) = x
      rw [if_pos (by omega)]; omega
    · rw [e, if_neg q] at h; omega
  · refine ⟨4, by decide, ?_⟩
    have e : sdv x 5 = if x / 225 < 14 then x + 225 else 9999 := rfl
    by_cases q : x / 225 < 14
    · rw [e, if_pos q]
      show (if 0 < (x + 225) / 225 then x + 225 - 225 else 9999) = x
      rw [if_pos (by omega)]; omega
    · rw [e, if_neg q] at h; omega
theorem sd_sym4 {x w : Nat} (hx : x < 3375) (hw : w < 4) (h : sdv x w < 3375) : ∃ w', w' < 4 ∧ sdv (sdv x w) w' = x := by
  obtain ⟨w', h1, h2⟩ := sd_sym hx (show w < 6 by omega) h
  rcases (show w' < 4 ∨ w' = 4 ∨ w' = 5 by omega) with q | q | q
  · exact ⟨w', q, h2⟩
  · exfalso
    subst q
    have e : sdv (sdv x w) 4 = if 0 < sdv x w / 225 then sdv x w - 225 else 9999 := rfl
    rw [e] at h2
    have k1 : sdv x w = x - 1 ∨ sdv x w = x + 1 ∨ sdv x w = x - 15 ∨ sdv x w = x + 15 ∨ sdv x w = 9999 := by
      unfold sdv; (repeat' split) <;> omega
    split at h2 <;> omega
  · exfalso
    subst q
    have e : sdv (sdv x w) 5 = if sdv x w / 225 < 14 then sdv x w + 225 else 9999 := rfl
    rw [e] at h2
    have k1 : sdv x w = x - 1 ∨ sdv x w = x + 1 ∨ sdv x w = x - 15 ∨ sdv x w = x + 15 ∨ sdv x w = 9999 := by
      unfold sdv; (repeat' split) <;> omega
    split at h2 <;> omega
theorem clo_tr {ways : Nat} {ok : Nat → Prop} {f x q : Nat} (h1 : clo ways ok f x) (h2 : clo ways ok x q) : clo ways ok f q := fun X h0 hs => h2 X (h1 X h0 hs) hs
theorem clo_in {ways : Nat} {ok : Nat → Prop} {f q : Nat} (hf : f < 3375) (hof : ok f) (h : clo ways ok f q) : q < 3375 ∧ ok q := h (fun q => q < 3375 ∧ ok q) ⟨hf, hof⟩ (fun x w _ _ h1 h2 => ⟨h1, h2⟩)
theorem clo_sy {ways : Nat} {ok : Nat → Prop} {f q : Nat} (hsym : ∀ x w, x < 3375 → w < ways → sdv x w < 3375 → ∃ w', w' < ways ∧ sdv (sdv x w) w' = x) (hf : f < 3375) (hof : ok f) (h : clo ways ok f q) : clo ways ok q f := by
  refine (h (fun q => (q < 3375 ∧ ok q) ∧ clo ways ok q f) ⟨⟨hf, hof⟩, clo_0⟩ (fun x w hx hw h1 h2 => ⟨⟨h1, h2⟩, ?_⟩)).2
  obtain ⟨w', hw', e⟩ := hsym x w hx.1.1 hw h1
  have s : clo ways ok (sdv x w) (sdv (sdv x w) w') := clo_s clo_0 hw' (by rw [e]; exact hx.1.1) (by rw [e]; exact hx.1.2)
  rw [e] at s
  exact clo_tr s hx.2
/-- what is not yet marked is a union of whole pieces: then marks restrict nothing -/
theorem clo_un {ways : Nat} {ok ok2 : Nat → Prop} {f : Nat} (hf : f < 3375) (hof : ok f) (h2f : ok2 f) (hcl : ∀ x w, x < 3375 → ok x → ok2 x → w < ways → sdv x w < 3375 → ok (sdv x w) → ok2 (sdv x w)) (q : Nat) : clo ways (fun y => ok2 y ∧ ok y) f q ↔ clo ways ok f q := by
  constructor
  · intro h X h0 hs
    exact h X h0 (fun x w hx hw h1 h2 => hs x w hx hw h1 h2.2)
  · intro h
    refine (h (fun q => (q < 3375 ∧ ok q ∧ ok2 q) ∧ clo ways (fun y => ok2 y ∧ ok y) f q) ⟨⟨hf, hof, h2f⟩, clo_0⟩ (fun x w hx hw h1 h2 => ?_)).2
    have h3 := hcl x w hx.1.1 hx.1.2.1 hx.1.2.2 hw h1 h2
    exact ⟨⟨h1, h2, h3⟩, clo_s hx.2 hw h1 ⟨h3, h2⟩⟩
