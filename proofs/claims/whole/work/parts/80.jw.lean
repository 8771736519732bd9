/-! class and reference side by side -/
theorem Met_imp {l : Launch} {y : MethodName} {ws : List Cond} {rm : Room} {Pc : Array Value → State → Prop} {Qc Qc' : Array Value → State → Outcome → State → Prop} {mc ms : Nat} {free : Addr → Prop} (h : Met l y ws rm Pc Qc mc ms free) (hq : ∀ a st o t, Qc a st o t → Qc' a st o t) : Met l y ws rm Pc Qc' mc ms free := fun p e h1 h2 h3 s m args below hf ha hP hK => by
  obtain ⟨n, o, a1, a2, a3, q, fr⟩ := h p e h1 h2 h3 s m args below hf ha hP hK
  exact ⟨n, o, a1, a2, a3, hq _ _ _ _ q, fr⟩
theorem CMi_imp {l : Launch} {D : va_G} {cT : Nat → ClassId} {X : CX} {y : MethodName} {b : ByteArray} {n : Nat} {r : Option FieldType} {fr lo : Nat} {av : List Value} {I : Nat → Int32} {a : Nat → Nat → Int32} {post post' : Int32 → CS → Prop} (h : CMi l D cT X y b n r fr lo av I a post) (hp : ∀ r u, post r u → post' r u) : CMi l D cT X y b n r fr lo av I a post' := Met_imp h (fun _ _ _ _ ⟨⟨r, u, h1, h2, h3⟩, h4⟩ => ⟨⟨r, u, h1, hp r u h2, h3⟩, h4⟩)
theorem RDi_imp {l : Launch} {D : va_G} {cT : Nat → ClassId} {w : va_W} {y : MethodName} {b : ByteArray} {n : Nat} {r : Option FieldType} {fr lo : Nat} {av : List Value} {post post' : Int32 → Prop} (h : RDi l D cT w y b n r fr lo av post) (hp : ∀ r, post r → post' r) : RDi l D cT w y b n r fr lo av post' := Met_imp h (fun _ _ _ _ ⟨r, h1, h2, h3⟩ => ⟨r, h1, hp r h2, h3⟩)
theorem b_of {b : Int32} {nb : Nat} (h : 0 ≤ b.toInt ∧ b.toInt < (nb : Int)) : b = nI b.toInt.toNat ∧ b.toInt.toNat < nb := ⟨nI_ofI rfl h.1, by omega⟩
def AdOk (ad : Nat → Nat) : Prop := ∀ k, k ≤ 46 → k ∈ mArr ∨ ad k = ad 46
theorem ma_in {ad : Nat → Nat} {cT : Nat → ClassId} {I : Nat → Int32} {J : Nat → Int64} {a : Nat → Nat → Int32} {g : Nat → Nat → Int64} (h : AdOk ad) {q : Nat} (hq : MA ad q) : ∃ en, (q, en) ∈ mw cT ad I J a g := by
  obtain ⟨k, hk, rfl⟩ := hq
  rcases h k hk with h | h
  · exact ⟨_, List.mem_cons_of_mem _ (List.mem_map.mpr ⟨k, h, rfl⟩)⟩
  · exact ⟨.inr (12, mFs ad I J), by rw [h]; exact List.mem_cons_self⟩
theorem ca_mem {cT : Nat → ClassId} {X : CX} {I : Nat → Int32} {a : Nat → Nat → Int32} {q : Nat} (hq : CA X q) : ∃ en, (q, en) ∈ cw cT X I a := by
  rcases hq with ⟨k, hk, rfl⟩ | ⟨en, h⟩
  · exact ⟨_, List.mem_append_left _ (List.mem_map.mpr ⟨k, List.mem_range.mpr hk, rfl⟩)⟩
  · exact ⟨en, List.mem_append_right _ h⟩
section JW
variable {p : Program} {l : Launch} {e : Env} {RM : Room} {s : State} {m : MethodId} {args : Array Value} {below : List Frame} {meth : Method} {c : Code} {H H0 : Heap} {locs : List Loc} {cells slots : Nat} {Q : State → Prop} {cc : ByteArray} {pc nL : Nat} {ls : Array Slot} {rest : List Value} {own : String}
variable {D : va_G} {cT : Nat → ClassId} {A : Nat → Prop} {X : CX} {I : Nat → Int32} {a : Nat → Nat → Int32} {ad : Nat → Nat} {Im : Nat → Int32} {Jm : Nat → Int64} {am : Nat → Nat → Int32} {gz : Nat → Nat → Int64} {adK adV : Nat → Nat} {N0 : Nat}
theorem jw_sw {w w' : va_W} (h : NM D A (w ++ w') H0 H locs) : NM D A (w' ++ w) H0 H locs := NM_perm List.perm_append_comm h
theorem jw_C (hJ : NM D A (cw cT X I a ++ mw cT ad Im Jm am gz) H0 H locs) : CO D cT A X I a H0 H locs := NM_left hJ
theorem jw_mA (hJ : NM D A (cw cT X I a ++ mw cT ad Im Jm am gz) H0 H locs) (hAd : AdOk ad) : ∀ q, MA ad q → A q := fun q hq => by
  obtain ⟨en, h⟩ := ma_in (cT := cT) (I := Im) (J := Jm) (a := am) (g := gz) hAd hq
  exact (vaD_mem.mp hJ.2.1).2 (q, en) (List.mem_append_right _ h)
theorem jw_M (hJ : NM D A (cw cT X I a ++ mw cT ad Im Jm am gz) H0 H locs) : va_P D classes (mw cT ad Im Jm am gz) H ∧ va_D (MA ad) (mw cT ad Im Jm am gz) := by
  have h := NM_left (jw_sw hJ)
  refine ⟨h.1, vaD_mem.mpr ⟨(vaD_mem.mp h.2.1).1, fun q hq => ?_⟩⟩
  rcases List.mem_cons.mp hq with rfl | hq
  · exact ⟨46, Nat.le_refl _, rfl⟩
  · obtain ⟨k, hk, rfl⟩ := List.mem_map.mp hq
    exact ⟨k, by have : ∀ k ∈ mArr, k ≤ 46 := by decide
                 exact this k hk, rfl⟩
theorem jw_cm {y : MethodName} {b : ByteArray} {n np index fr lo : Nat} {r : Option FieldType} {av st : List Value} {post : Int32 → CS → Prop} (hC : CallFix p m c cc nL s args GW own) (hK : KE D cT s) (hJ : NM D A (cw cT X I a ++ mw cT ad Im Jm am gz) H0 H locs) (hm : CMi l D cT X y b n r fr lo (.ref (X.1 0) :: av) I a post) (hy : y.cls = R_So) (hw : Cond.methodLink own index y ∈ GW ∧ Cond.instanceMethod y ∈ GW ∧ Cond.selects y.cls y y ∈ GW ∧ Cond.code y b n r ∈ GW ∧ Cond.initialized y.cls ∈ GW) (hd : y.cls ≠ "java/lang/invoke/MethodHandle" ∧ y.cls ≠ "java/lang/invoke/VarHandle" ∧ (parseMethodDescriptor y.desc).map (fun d => d.parameters.length) = some np) (hR : fr + 1 ≤ RM.frames ∧ 8 + (n + 11) + lo ≤ RM.locals) (hsz : ls.size = nL) (hn : av.length = np) (hst : st = av.reverse ++ .ref (X.1 0) :: rest) (hcat : (rest.map fun v => v.category).sum ≤ 8) (hf : cells ≤ RM.cells ∧ slots ≤ RM.slots) (hdg : decode cc pc = .ok (.invokevirtual index, 3))
    (kk : ∀ (r : Int32) (I' : Nat → Int32) (a' : Nat → Nat → Int32) (H1 : Heap) (locs1 : List Loc), post r (I', a') → NM D A (cw cT X I' a' ++ mw cT ad Im Jm am gz) H0 H1 locs1 → W p l e RM s m args below meth c H1 locs1 cells slots Q (F0 m (pc + 3) ls (.int r :: rest))) : W p l e RM s m args below meth c H locs cells slots Q (F0 m pc ls st) :=
  va_calli (va_runV (As := av) (rest := rest) hC hm (cw_V hC.2.2.2.2 hw hd hR) ⟨cPc_blind, by rw [hy]; exact va_recv hK.1 (jw_C hJ).1 (ci := 11) rfl (cw_he (k := 0) (by omega) cE_0), fun U hU hW => ⟨rfl, by rw [hU]; exact (jw_C hJ).1, hK.moved hW, co_self (jw_C hJ)⟩⟩ rfl hn hsz hst (lv_room hcat) hdg hf) hJ.2.2 (fun q _ h => ca_in (jw_C hJ) q h) (fun q h => ca_in (jw_C hJ) q h) (fun r u t H1 locs1 ht hvm hp hB hz hk2 hS => kk r u.1 u.2 H1 locs1 hp (jw_sw (NM_join (jw_sw hJ) hk2 (fun q hq => Or.inl (ca_mem hq)) (fun q h => ca_in (jw_C hJ) q h) (by rw [← ht]; exact hB.1) hB.2 hS)))
theorem jw_cb {y : MethodName} {b : ByteArray} {n np index fr lo mc ms : Nat} {r : Option FieldType} {av st : List Value} {post : Int32 → CX × (Nat → Int32) × (Nat → Nat → Int32) → Prop} (hC : CallFix p m c cc nL s args GW own) (hK : KE D cT s) (hJ : NM D A (cw cT X I a ++ mw cT ad Im Jm am gz) s.heap H locs) (hZ : SE adK adV N0 s) (hA : ∀ q, A q → N0 ≤ q) (hAs : ∀ q, s.heap.size ≤ q → A q) (hm : CBi l D cT X y b n r fr lo mc ms (.ref (X.1 0) :: av) I a H.size adK adV N0 post) (hy : y.cls = R_So) (hw : Cond.methodLink own index y ∈ GW ∧ Cond.instanceMethod y ∈ GW ∧ Cond.selects y.cls y y ∈ GW ∧ Cond.code y b n r ∈ GW ∧ Cond.initialized y.cls ∈ GW) (hd : y.cls ≠ "java/lang/invoke/MethodHandle" ∧ y.cls ≠ "java/lang/invoke/VarHandle" ∧ (parseMethodDescriptor y.desc).map (fun d => d.parameters.length) = some np) (hR : fr + 1 ≤ RM.frames ∧ 8 + (n + 11) + lo ≤ RM.locals) (hsz : ls.size = nL) (hn : av.length = np) (hst : st = av.reverse ++ .ref (X.1 0) :: rest) (hcat : (rest.map fun v => v.category).sum ≤ 8) (hf : cells + mc ≤ RM.cells ∧ slots + ms ≤ RM.slots) (hdg : decode cc pc = .ok (.invokevirtual index, 3))
    (kk : ∀ (r : Int32) (X' : CX) (I' : Nat → Int32) (a' : Nat → Nat → Int32) (H1 : Heap) (locs1 : List Loc), post r (X', I', a') → NM D A (cw cT X' I' a' ++ mw cT ad Im Jm am gz) s.heap H1 locs1 → W p l e RM s m args below meth c H1 locs1 (cells + mc) (slots + ms) Q (F0 m (pc + 3) ls (.int r :: rest))) : W p l e RM s m args below meth c H locs cells slots Q (F0 m pc ls st) :=
  va_calli (va_runV (As := av) (rest := rest) hC hm ⟨callB_of np hC.2.2.2.2 (gm hw.2.2.2.1) rfl rfl rfl (hC.2.2.2.2 _ hw.2.2.2.2) (hC.2.2.2.2 _ hw.1) hd hR, hC.2.2.2.2 _ hw.2.1, hC.2.2.2.2 _ hw.2.2.1⟩ ⟨caPc_blind, by rw [hy]; exact va_recv hK.1 (jw_C hJ).1 (ci := 11) rfl (cw_he (k := 0) (by omega) cE_0), fun U hU hW => ⟨rfl, by rw [hU], by rw [hU]; exact (jw_C hJ).1, hK.moved hW, co_self (jw_C hJ), hZ.to hU hW hJ.2.2 hA⟩⟩ rfl hn hsz hst (lv_room hcat) hdg hf) hJ.2.2 (fun q _ h => ca_A1 (jw_C hJ) hAs q h) (ca_A1 (jw_C hJ) hAs) (fun r u t H1 locs1 ht hvm hp hB hz hk2 hS => kk r u.1 u.2.1 u.2.2 H1 locs1 hp (jw_sw (NM_join (jw_sw hJ) hk2 (fun q hq => hq.elim (fun h => Or.inl (ca_mem h)) Or.inr) (ca_A1 (jw_C hJ) hAs) (by rw [← ht]; exact hB.1) hB.2 hS)))
theorem jw_rd {y : MethodName} {b : ByteArray} {n np index fr lo : Nat} {r : Option FieldType} {av st : List Value} {post : Int32 → Prop} (hC : CallFix p m c cc nL s args GW own) (hK : KE D cT s) (hJ : NM D A (cw cT X I a ++ mw cT ad Im Jm am gz) H0 H locs) (hm : RDi l D cT (cw cT X I a) y b n r fr lo (.ref (X.1 0) :: av) post) (hy : y.cls = R_So) (hw : Cond.methodLink own index y ∈ GW ∧ Cond.instanceMethod y ∈ GW ∧ Cond.selects y.cls y y ∈ GW ∧ Cond.code y b n r ∈ GW ∧ Cond.initialized y.cls ∈ GW) (hd : y.cls ≠ "java/lang/invoke/MethodHandle" ∧ y.cls ≠ "java/lang/invoke/VarHandle" ∧ (parseMethodDescriptor y.desc).map (fun d => d.parameters.length) = some np) (hR : fr + 1 ≤ RM.frames ∧ 8 + (n + 11) + lo ≤ RM.locals) (hsz : ls.size = nL) (hn : av.length = np) (hst : st = av.reverse ++ .ref (X.1 0) :: rest) (hcat : (rest.map fun v => v.category).sum ≤ 8) (hf : cells ≤ RM.cells ∧ slots ≤ RM.slots) (hdg : decode cc pc = .ok (.invokevirtual index, 3))
    (kk : ∀ r : Int32, post r → W p l e RM s m args below meth c H locs cells slots Q (F0 m (pc + 3) ls (.int r :: rest))) : W p l e RM s m args below meth c H locs cells slots Q (F0 m pc ls st) :=
  rd_call (k := 0) (ci := 11) hC hK (jw_C hJ).1 (cw_he (by omega) cE_0) rfl hm hy hw hd hR hsz hn hst hcat hf hdg kk
theorem jw_mm {y : MethodName} {b : ByteArray} {n np index fr lo : Nat} {r : Option FieldType} {av st : List Value} {post : Int32 → MS → Prop} (hC : CallFix p m c cc nL s args GW own) (hK : KE D cT s) (hJ : NM D A (cw cT X I a ++ mw cT ad Im Jm am gz) H0 H locs) (hAd : AdOk ad) (hm : MMi l D cT ad y b n r fr lo av Im Jm am gz post) (hy : y.cls = R_Mo) (hw : Cond.methodLink own index y ∈ GW ∧ Cond.instanceMethod y ∈ GW ∧ Cond.selects y.cls y y ∈ GW ∧ Cond.code y b n r ∈ GW ∧ Cond.initialized y.cls ∈ GW) (hd : y.cls ≠ "java/lang/invoke/MethodHandle" ∧ y.cls ≠ "java/lang/invoke/VarHandle" ∧ (parseMethodDescriptor y.desc).map (fun d => d.parameters.length) = some np) (hR : fr + 1 ≤ RM.frames ∧ 8 + (n + 11) + lo ≤ RM.locals) (hsz : ls.size = nL) (hn : av.length = np) (hst : st = av.reverse ++ .ref (ad 46) :: rest) (hcat : (rest.map fun v => v.category).sum ≤ 8) (hf : cells ≤ RM.cells ∧ slots ≤ RM.slots) (hdg : decode cc pc = .ok (.invokevirtual index, 3))
    (kk : ∀ (r : Int32) (I' : Nat → Int32) (J' : Nat → Int64) (a' : Nat → Nat → Int32) (g' : Nat → Nat → Int64) (H1 : Heap) (locs1 : List Loc), post r (I', J', a', g') → NM D A (cw cT X I a ++ mw cT ad I' J' a' g') H0 H1 locs1 → W p l e RM s m args below meth c H1 locs1 cells slots Q (F0 m (pc + 3) ls (.int r :: rest))) : W p l e RM s m args below meth c H locs cells slots Q (F0 m pc ls st) :=
  va_calli (va_runV (As := av) (rest := rest) hC hm (cw_V hC.2.2.2.2 hw hd hR) ⟨mPc_blind, by rw [hy]; exact va_recv hK.1 (jw_M hJ).1 (ci := 12) (q0 := 0) rfl rfl, fun U hU hW => ⟨rfl, by rw [hU]; exact (jw_M hJ).1, hK.moved hW, (jw_M hJ).2⟩⟩ rfl hn hsz hst (lv_room hcat) hdg hf) hJ.2.2 (fun q _ h => jw_mA hJ hAd q h) (jw_mA hJ hAd) (fun r u t H1 locs1 ht hvm hp hB hz hk hS => kk r u.1 u.2.1 u.2.2.1 u.2.2.2 H1 locs1 hp (NM_join hJ hk (fun q hq => Or.inl (ma_in hAd hq)) (jw_mA hJ hAd) (by rw [← ht]; exact hB.1) hB.2 hS))
theorem jw_mr {y : MethodName} {b : ByteArray} {n np index fr lo : Nat} {r : Option FieldType} {av st : List Value} {post : Int32 → Prop} (hC : CallFix p m c cc nL s args GW own) (hK : KE D cT s) (hJ : NM D A (cw cT X I a ++ mw cT ad Im Jm am gz) H0 H locs) (hm : MRi l D cT ad y b n r fr lo av Im Jm am gz post) (hy : y.cls = R_Mo) (hw : Cond.methodLink own index y ∈ GW ∧ Cond.instanceMethod y ∈ GW ∧ Cond.selects y.cls y y ∈ GW ∧ Cond.code y b n r ∈ GW ∧ Cond.initialized y.cls ∈ GW) (hd : y.cls ≠ "java/lang/invoke/MethodHandle" ∧ y.cls ≠ "java/lang/invoke/VarHandle" ∧ (parseMethodDescriptor y.desc).map (fun d => d.parameters.length) = some np) (hR : fr + 1 ≤ RM.frames ∧ 8 + (n + 11) + lo ≤ RM.locals) (hsz : ls.size = nL) (hn : av.length = np) (hst : st = av.reverse ++ .ref (ad 46) :: rest) (hcat : (rest.map fun v => v.category).sum ≤ 8) (hf : cells ≤ RM.cells ∧ slots ≤ RM.slots) (hdg : decode cc pc = .ok (.invokevirtual index, 3))
    (kk : ∀ r : Int32, post r → W p l e RM s m args below meth c H locs cells slots Q (F0 m (pc + 3) ls (.int r :: rest))) : W p l e RM s m args below meth c H locs cells slots Q (F0 m pc ls st) :=
  vp_callSi (W.runV (As := av) (rest := rest) hC hm (cw_V hC.2.2.2.2 hw hd hR) ⟨mPc_blind, by rw [hy]; exact va_recv hK.1 (jw_M hJ).1 (ci := 12) (q0 := 0) rfl rfl, fun U hU hW => ⟨rfl, by rw [hU]; exact (jw_M hJ).1, hK.moved hW, (jw_M hJ).2⟩⟩ rfl hn hsz hst (lv_room hcat) hdg hf) kk
end JW

theorem k_So_volume (l : Launch) (D : va_G) (cT : Nat → ClassId) (X : CX) (I : Nat → Int32) (a : Nat → Nat → Int32) (b : Int32) (nb : Nat) (T : Nat → TX) (tl : Nat) (tb : Nat → Nat) (ft : Int32) (la : Nat → Int32) (szz : Nat → Nat) (ce : Nat → Nat → Int32) (hCI : CI X I a nb T tl tb ft la szz ce) : CMi l D cT X y_So_volume b_So_volume 3 (some .int) 26 865 [.ref (X.1 0), .int b] I a (fun r u => (0 ≤ b.toInt ∧ b.toInt < (nb : Int) → ((fun b : Nat => (fun r u => (r = nI (siz (rwI (VF (T b))))) ∧ CI X u.1 u.2 nb T tl tb ft la szz ce)) b.toInt.toNat) r u) ∧ (¬ (0 ≤ b.toInt ∧ b.toInt < (nb : Int)) → r = -1) ∧ CI X u.1 u.2 nb T tl tb ft la szz ce) := by
  by_cases hb : 0 ≤ b.toInt ∧ b.toInt < (nb : Int)
  · obtain ⟨e1, e2⟩ := b_of hb
    have h := c_So_volume_y l D cT X I a b.toInt.toNat  nb T tl tb ft la szz ce hCI e2
    rw [← e1] at h
    exact CMi_imp h (fun r u hp => ⟨fun _ => hp, fun z => absurd hb z, hp.2⟩)
  · exact CMi_imp (c_So_volume_n l D cT X I a b  nb T tl tb ft la szz ce hCI hb) (fun r u hp => ⟨fun z => absurd z hb, fun _ => hp.1, by rw [hp.2]; exact hCI⟩)

theorem k_So_point (l : Launch) (D : va_G) (cT : Nat → ClassId) (X : CX) (I : Nat → Int32) (a : Nat → Nat → Int32) (b i what : Int32) (nb : Nat) (T : Nat → TX) (tl : Nat) (tb : Nat → Nat) (ft : Int32) (la : Nat → Int32) (szz : Nat → Nat) (ce : Nat → Nat → Int32) (hCI : CI X I a nb T tl tb ft la szz ce) : CMi l D cT X y_So_point b_So_point 5 (some .int) 26 865 [.ref (X.1 0), .int b, .int i, .int what] I a (fun r u => (0 ≤ b.toInt ∧ b.toInt < (nb : Int) → ((fun b : Nat => (fun r u => (if 0 ≤ i.toInt ∧ 0 ≤ what.toInt ∧ what.toInt ≤ 2 then ptR (rwI (VF (T b))) i.toInt.toNat what r else r = -100) ∧ CI X u.1 u.2 nb T tl tb ft la szz ce)) b.toInt.toNat) r u) ∧ (¬ (0 ≤ b.toInt ∧ b.toInt < (nb : Int)) → r = -100) ∧ CI X u.1 u.2 nb T tl tb ft la szz ce) := by
  by_cases hb : 0 ≤ b.toInt ∧ b.toInt < (nb : Int)
  · obtain ⟨e1, e2⟩ := b_of hb
    have h := c_So_point_y l D cT X I a b.toInt.toNat i what nb T tl tb ft la szz ce hCI e2
    rw [← e1] at h
    exact CMi_imp h (fun r u hp => ⟨fun _ => hp, fun z => absurd hb z, hp.2⟩)
  · exact CMi_imp (c_So_point_n l D cT X I a b i what nb T tl tb ft la szz ce hCI hb) (fun r u hp => ⟨fun z => absurd z hb, fun _ => hp.1, by rw [hp.2]; exact hCI⟩)

theorem k_So_skin (l : Launch) (D : va_G) (cT : Nat → ClassId) (X : CX) (I : Nat → Int32) (a : Nat → Nat → Int32) (b what : Int32) (nb : Nat) (T : Nat → TX) (tl : Nat) (tb : Nat → Nat) (ft : Int32) (la : Nat → Int32) (szz : Nat → Nat) (ce : Nat → Nat → Int32) (hCI : CI X I a nb T tl tb ft la szz ce) : CMi l D cT X y_So_skin b_So_skin 4 (some .int) 26 865 [.ref (X.1 0), .int b, .int what] I a (fun r u => (0 ≤ b.toInt ∧ b.toInt < (nb : Int) → ((fun b : Nat => (fun r u => (r = if what = 0 then nI (sm (sqT (rwI (VF (T b)))) 15) else if what = 1 then nI (edS (VF (T b)) 0) else if what = 2 then nI (coS (VF (T b))) else if what = 3 then nI (edS (VF (T b)) 1) else -1) ∧ CI X u.1 u.2 nb T tl tb ft la szz ce)) b.toInt.toNat) r u) ∧ (¬ (0 ≤ b.toInt ∧ b.toInt < (nb : Int)) → r = -1) ∧ CI X u.1 u.2 nb T tl tb ft la szz ce) := by
  by_cases hb : 0 ≤ b.toInt ∧ b.toInt < (nb : Int)
  · obtain ⟨e1, e2⟩ := b_of hb
    have h := c_So_skin_y l D cT X I a b.toInt.toNat what nb T tl tb ft la szz ce hCI e2
    rw [← e1] at h
    exact CMi_imp h (fun r u hp => ⟨fun _ => hp, fun z => absurd hb z, hp.2⟩)
  · exact CMi_imp (c_So_skin_n l D cT X I a b what nb T tl tb ft la szz ce hCI hb) (fun r u hp => ⟨fun z => absurd z hb, fun _ => hp.1, by rw [hp.2]; exact hCI⟩)

theorem k_So_parts (l : Launch) (D : va_G) (cT : Nat → ClassId) (X : CX) (I : Nat → Int32) (a : Nat → Nat → Int32) (b what : Int32) (nb : Nat) (T : Nat → TX) (tl : Nat) (tb : Nat → Nat) (ft : Int32) (la : Nat → Int32) (szz : Nat → Nat) (ce : Nat → Nat → Int32) (hCI : CI X I a nb T tl tb ft la szz ce) : CMi l D cT X y_So_parts b_So_parts 4 (some .int) 26 865 [.ref (X.1 0), .int b, .int what] I a (fun r u => (0 ≤ b.toInt ∧ b.toInt < (nb : Int) → ((fun b : Nat => (fun r u => (r = if 0 ≤ what.toInt ∧ what.toInt ≤ 3 then (if what.toInt = 0 then nI (cn (plS (VF (T b))) 3375) else if what.toInt = 1 then nI (cn (fun k => plS (NV (VF (T b))) k && shS (NV (VF (T b))) k) 3375) else if what.toInt = 2 then nI (gmx (plS (VF (T b))) (szS (VF (T b))) 3375) else nI (smx (fun k => plS (NV (VF (T b))) k && shS (NV (VF (T b))) k) (szS (NV (VF (T b)))) 3375)) else -1) ∧ CI X u.1 u.2 nb T tl tb ft la szz ce)) b.toInt.toNat) r u) ∧ (¬ (0 ≤ b.toInt ∧ b.toInt < (nb : Int)) → r = -1) ∧ CI X u.1 u.2 nb T tl tb ft la szz ce) := by
  by_cases hb : 0 ≤ b.toInt ∧ b.toInt < (nb : Int)
  · obtain ⟨e1, e2⟩ := b_of hb
    have h := c_So_parts_y l D cT X I a b.toInt.toNat what nb T tl tb ft la szz ce hCI e2
    rw [← e1] at h
    exact CMi_imp h (fun r u hp => ⟨fun _ => hp, fun z => absurd hb z, hp.2⟩)
  · exact CMi_imp (c_So_parts_n l D cT X I a b what nb T tl tb ft la szz ce hCI hb) (fun r u hp => ⟨fun z => absurd z hb, fun _ => hp.1, by rw [hp.2]; exact hCI⟩)

theorem k_So_part (l : Launch) (D : va_G) (cT : Nat → ClassId) (X : CX) (I : Nat → Int32) (a : Nat → Nat → Int32) (b x y z : Int32) (nb : Nat) (T : Nat → TX) (tl : Nat) (tb : Nat → Nat) (ft : Int32) (la : Nat → Int32) (szz : Nat → Nat) (ce : Nat → Nat → Int32) (hCI : CI X I a nb T tl tb ft la szz ce) : CMi l D cT X y_So_part b_So_part 6 (some .int) 26 865 [.ref (X.1 0), .int b, .int x, .int y, .int z] I a (fun r u => (0 ≤ b.toInt ∧ b.toInt < (nb : Int) → ((fun b : Nat => (fun r u => (if -7 ≤ x.toInt ∧ x.toInt ≤ 7 ∧ -7 ≤ y.toInt ∧ y.toInt ≤ 7 ∧ -7 ≤ z.toInt ∧ z.toInt ≤ 7 then (if (VF (T b)) (nix x.toInt y.toInt z.toInt) = true then ∃ f, f < 3375 ∧ plS (VF (T b)) f = true ∧ cS (VF (T b)) f (nix x.toInt y.toInt z.toInt) ∧ r = nI (cn (plS (VF (T b))) f) else r = -4) else r = -1) ∧ CI X u.1 u.2 nb T tl tb ft la szz ce)) b.toInt.toNat) r u) ∧ (¬ (0 ≤ b.toInt ∧ b.toInt < (nb : Int)) → r = -1) ∧ CI X u.1 u.2 nb T tl tb ft la szz ce) := by
  by_cases hb : 0 ≤ b.toInt ∧ b.toInt < (nb : Int)
  · obtain ⟨e1, e2⟩ := b_of hb
    have h := c_So_part_y l D cT X I a b.toInt.toNat x y z nb T tl tb ft la szz ce hCI e2
    rw [← e1] at h
    exact CMi_imp h (fun r u hp => ⟨fun _ => hp, fun z => absurd hb z, hp.2⟩)
  · exact CMi_imp (c_So_part_n l D cT X I a b x y z nb T tl tb ft la szz ce hCI hb) (fun r u hp => ⟨fun z => absurd z hb, fun _ => hp.1, by rw [hp.2]; exact hCI⟩)

theorem k_So_slice (l : Launch) (D : va_G) (cT : Nat → ClassId) (X : CX) (I : Nat → Int32) (a : Nat → Nat → Int32) (b z what : Int32) (nb : Nat) (T : Nat → TX) (tl : Nat) (tb : Nat → Nat) (ft : Int32) (la : Nat → Int32) (szz : Nat → Nat) (ce : Nat → Nat → Int32) (hCI : CI X I a nb T tl tb ft la szz ce) : CMi l D cT X y_So_slice b_So_slice 5 (some .int) 26 865 [.ref (X.1 0), .int b, .int z, .int what] I a (fun r u => (0 ≤ b.toInt ∧ b.toInt < (nb : Int) → ((fun b : Nat => (fun r u => (r = if -7 ≤ z.toInt ∧ z.toInt ≤ 7 then (if what = 0 then nI (slS (rwI (VF (T b))) z.toInt) else if what = 1 then nI (sm (olR (rwI (VF (T b))) z.toInt) 15) else if what = 2 then nI (cn (plS (ZV (VF (T b)) z.toInt)) 3375) else -1) else -1) ∧ CI X u.1 u.2 nb T tl tb ft la szz ce)) b.toInt.toNat) r u) ∧ (¬ (0 ≤ b.toInt ∧ b.toInt < (nb : Int)) → r = -1) ∧ CI X u.1 u.2 nb T tl tb ft la szz ce) := by
  by_cases hb : 0 ≤ b.toInt ∧ b.toInt < (nb : Int)
  · obtain ⟨e1, e2⟩ := b_of hb
    have h := c_So_slice_y l D cT X I a b.toInt.toNat z what nb T tl tb ft la szz ce hCI e2
    rw [← e1] at h
    exact CMi_imp h (fun r u hp => ⟨fun _ => hp, fun z => absurd hb z, hp.2⟩)
  · exact CMi_imp (c_So_slice_n l D cT X I a b z what nb T tl tb ft la szz ce hCI hb) (fun r u hp => ⟨fun z => absurd z hb, fun _ => hp.1, by rw [hp.2]; exact hCI⟩)

theorem k_So_thin (l : Launch) (D : va_G) (cT : Nat → ClassId) (X : CX) (I : Nat → Int32) (a : Nat → Nat → Int32) (b way : Int32) (nb : Nat) (T : Nat → TX) (tl : Nat) (tb : Nat → Nat) (ft : Int32) (la : Nat → Int32) (szz : Nat → Nat) (ce : Nat → Nat → Int32) (hCI : CI X I a nb T tl tb ft la szz ce) : CMi l D cT X y_So_thin b_So_thin 4 (some .int) 26 865 [.ref (X.1 0), .int b, .int way] I a (fun r u => (0 ≤ b.toInt ∧ b.toInt < (nb : Int) → ((fun b : Nat => (fun r u => (r = if 0 ≤ way.toInt ∧ way.toInt ≤ 2 then nI (thS (VF (T b)) way) else -1) ∧ CI X u.1 u.2 nb T tl tb ft la szz ce)) b.toInt.toNat) r u) ∧ (¬ (0 ≤ b.toInt ∧ b.toInt < (nb : Int)) → r = -1) ∧ CI X u.1 u.2 nb T tl tb ft la szz ce) := by
  by_cases hb : 0 ≤ b.toInt ∧ b.toInt < (nb : Int)
  · obtain ⟨e1, e2⟩ := b_of hb
    have h := c_So_thin_y l D cT X I a b.toInt.toNat way nb T tl tb ft la szz ce hCI e2
    rw [← e1] at h
    exact CMi_imp h (fun r u hp => ⟨fun _ => hp, fun z => absurd hb z, hp.2⟩)
  · exact CMi_imp (c_So_thin_n l D cT X I a b way nb T tl tb ft la szz ce hCI hb) (fun r u hp => ⟨fun z => absurd z hb, fun _ => hp.1, by rw [hp.2]; exact hCI⟩)

theorem k_So_overhang (l : Launch) (D : va_G) (cT : Nat → ClassId) (X : CX) (I : Nat → Int32) (a : Nat → Nat → Int32) (b z : Int32) (nb : Nat) (T : Nat → TX) (tl : Nat) (tb : Nat → Nat) (ft : Int32) (la : Nat → Int32) (szz : Nat → Nat) (ce : Nat → Nat → Int32) (hCI : CI X I a nb T tl tb ft la szz ce) : CMi l D cT X y_So_overhang b_So_overhang 4 (some .int) 26 865 [.ref (X.1 0), .int b, .int z] I a (fun r u => (0 ≤ b.toInt ∧ b.toInt < (nb : Int) → ((fun b : Nat => (fun r u => (r = if -7 ≤ z.toInt ∧ z.toInt ≤ 7 then nI (hgS (VF (T b)) z.toInt) else -1) ∧ CI X u.1 u.2 nb T tl tb ft la szz ce)) b.toInt.toNat) r u) ∧ (¬ (0 ≤ b.toInt ∧ b.toInt < (nb : Int)) → r = -1) ∧ CI X u.1 u.2 nb T tl tb ft la szz ce) := by
  by_cases hb : 0 ≤ b.toInt ∧ b.toInt < (nb : Int)
  · obtain ⟨e1, e2⟩ := b_of hb
    have h := c_So_overhang_y l D cT X I a b.toInt.toNat z nb T tl tb ft la szz ce hCI e2
    rw [← e1] at h
    exact CMi_imp h (fun r u hp => ⟨fun _ => hp, fun z => absurd hb z, hp.2⟩)
  · exact CMi_imp (c_So_overhang_n l D cT X I a b z nb T tl tb ft la szz ce hCI hb) (fun r u hp => ⟨fun z => absurd z hb, fun _ => hp.1, by rw [hp.2]; exact hCI⟩)

theorem k_So_parted (l : Launch) (D : va_G) (cT : Nat → ClassId) (X : CX) (I : Nat → Int32) (a : Nat → Nat → Int32) (b what : Int32) (nb : Nat) (T : Nat → TX) (tl : Nat) (tb : Nat → Nat) (ft : Int32) (la : Nat → Int32) (szz : Nat → Nat) (ce : Nat → Nat → Int32) (hCI : CI X I a nb T tl tb ft la szz ce) : CMi l D cT X y_So_parted b_So_parted 4 (some .int) 37 1321 [.ref (X.1 0), .int b, .int what] I a (fun r u => (0 ≤ b.toInt ∧ b.toInt < (nb : Int) → ((fun b : Nat => (fun r u => (r = if 0 ≤ what.toInt ∧ what.toInt ≤ 4 then iI (pae (T b) rt0 what.toInt.toNat) else -1) ∧ CI X u.1 u.2 nb T tl tb ft la szz ce)) b.toInt.toNat) r u) ∧ (¬ (0 ≤ b.toInt ∧ b.toInt < (nb : Int)) → r = -1) ∧ CI X u.1 u.2 nb T tl tb ft la szz ce) := by
  by_cases hb : 0 ≤ b.toInt ∧ b.toInt < (nb : Int)
  · obtain ⟨e1, e2⟩ := b_of hb
    have h := c_So_parted_y l D cT X I a b.toInt.toNat what nb T tl tb ft la szz ce hCI e2
    rw [← e1] at h
    exact CMi_imp h (fun r u hp => ⟨fun _ => hp, fun z => absurd hb z, hp.2⟩)
  · exact CMi_imp (c_So_parted_n l D cT X I a b what nb T tl tb ft la szz ce hCI hb) (fun r u hp => ⟨fun z => absurd z hb, fun _ => hp.1, by rw [hp.2]; exact hCI⟩)

theorem k_So_rule (l : Launch) (D : va_G) (cT : Nat → ClassId) (X : CX) (I : Nat → Int32) (a : Nat → Nat → Int32) (b x y z : Int32) (nb : Nat) (T : Nat → TX) (tl : Nat) (tb : Nat → Nat) (ft : Int32) (la : Nat → Int32) (szz : Nat → Nat) (ce : Nat → Nat → Int32) (hCI : CI X I a nb T tl tb ft la szz ce) : RDi l D cT (cw cT X I a) y_So_rule b_So_rule 6 (some .int) 25 900 [.ref (X.1 0), .int b, .int x, .int y, .int z] (fun r => (0 ≤ b.toInt ∧ b.toInt < (nb : Int) → ((fun b : Nat => (fun r => r = if (-1000 ≤ x.toInt ∧ x.toInt ≤ 1000) ∧ (-1000 ≤ y.toInt ∧ y.toInt ≤ 1000) ∧ (-1000 ≤ z.toInt ∧ z.toInt ≤ 1000) then iI (vl (T b) x.toInt y.toInt z.toInt) else -1000000000)) b.toInt.toNat) r) ∧ (¬ (0 ≤ b.toInt ∧ b.toInt < (nb : Int)) → r = -1000000000)) := by
  by_cases hb : 0 ≤ b.toInt ∧ b.toInt < (nb : Int)
  · obtain ⟨e1, e2⟩ := b_of hb
    have h := c_So_rule_y l D cT X I a b.toInt.toNat x y z nb T tl tb ft la szz ce hCI e2
    rw [← e1] at h
    exact RDi_imp h (fun r hp => ⟨fun _ => hp, fun z => absurd hb z⟩)
  · exact RDi_imp (c_So_rule_n l D cT X I a b x y z nb T tl tb ft la szz ce hCI hb) (fun r hp => ⟨fun z => absurd z hb, fun _ => hp⟩)

theorem k_So_span (l : Launch) (D : va_G) (cT : Nat → ClassId) (X : CX) (I : Nat → Int32) (a : Nat → Nat → Int32) (b x y z u v w top : Int32) (nb : Nat) (T : Nat → TX) (tl : Nat) (tb : Nat → Nat) (ft : Int32) (la : Nat → Int32) (szz : Nat → Nat) (ce : Nat → Nat → Int32) (hCI : CI X I a nb T tl tb ft la szz ce) (htop : top = 0 ∨ top = 1) : RDi l D cT (cw cT X I a) y_So_span b_So_span 10 (some .int) 25 900 [.ref (X.1 0), .int b, .int x, .int y, .int z, .int u, .int v, .int w, .int top] (fun r => (0 ≤ b.toInt ∧ b.toInt < (nb : Int) → ((fun b : Nat => (fun r => r = if (-7 ≤ x.toInt ∧ x.toInt ≤ 7 ∧ -7 ≤ y.toInt ∧ y.toInt ≤ 7 ∧ -7 ≤ z.toInt ∧ z.toInt ≤ 7) ∧ (-7 ≤ u.toInt ∧ u.toInt ≤ 7 ∧ -7 ≤ v.toInt ∧ v.toInt ≤ 7 ∧ -7 ≤ w.toInt ∧ w.toInt ≤ 7) ∧ x.toInt ≤ u.toInt ∧ y.toInt ≤ v.toInt ∧ z.toInt ≤ w.toInt then iI (lh top (spT (T b) (bx6 x.toInt u.toInt y.toInt v.toInt z.toInt w.toInt))) else -1000000000)) b.toInt.toNat) r) ∧ (¬ (0 ≤ b.toInt ∧ b.toInt < (nb : Int)) → r = -1000000000)) := by
  by_cases hb : 0 ≤ b.toInt ∧ b.toInt < (nb : Int)
  · obtain ⟨e1, e2⟩ := b_of hb
    have h := c_So_span_y l D cT X I a b.toInt.toNat x y z u v w top nb T tl tb ft la szz ce hCI e2 htop
    rw [← e1] at h
    exact RDi_imp h (fun r hp => ⟨fun _ => hp, fun z => absurd hb z⟩)
  · exact RDi_imp (c_So_span_n l D cT X I a b x y z u v w top nb T tl tb ft la szz ce hCI hb) (fun r hp => ⟨fun z => absurd z hb, fun _ => hp⟩)

theorem k_So_ray (l : Launch) (D : va_G) (cT : Nat → ClassId) (X : CX) (I : Nat → Int32) (a : Nat → Nat → Int32) (b x y z u v w : Int32) (nb : Nat) (T : Nat → TX) (tl : Nat) (tb : Nat → Nat) (ft : Int32) (la : Nat → Int32) (szz : Nat → Nat) (ce : Nat → Nat → Int32) (hCI : CI X I a nb T tl tb ft la szz ce) : RDi l D cT (cw cT X I a) y_So_ray b_So_ray 10 (some .int) 25 843 [.ref (X.1 0), .int b, .int x, .int y, .int z, .int u, .int v, .int w] (fun r => (0 ≤ b.toInt ∧ b.toInt < (nb : Int) → ((fun b : Nat => (fun r => if (-7 ≤ x.toInt ∧ x.toInt ≤ 7 ∧ -7 ≤ y.toInt ∧ y.toInt ≤ 7 ∧ -7 ≤ z.toInt ∧ z.toInt ≤ 7) ∧ ((-3 ≤ u.toInt ∧ u.toInt ≤ 3 ∧ -3 ≤ v.toInt ∧ v.toInt ≤ 3 ∧ -3 ≤ w.toInt ∧ w.toInt ≤ 3) ∧ ¬ (u.toInt = 0 ∧ v.toInt = 0 ∧ w.toInt = 0)) then RYc (T b) x.toInt y.toInt z.toInt u.toInt v.toInt w.toInt r else r = -1)) b.toInt.toNat) r) ∧ (¬ (0 ≤ b.toInt ∧ b.toInt < (nb : Int)) → r = -1)) := by
  by_cases hb : 0 ≤ b.toInt ∧ b.toInt < (nb : Int)
  · obtain ⟨e1, e2⟩ := b_of hb
    have h := c_So_ray_y l D cT X I a b.toInt.toNat x y z u v w nb T tl tb ft la szz ce hCI e2
    rw [← e1] at h
    exact RDi_imp h (fun r hp => ⟨fun _ => hp, fun z => absurd hb z⟩)
  · exact RDi_imp (c_So_ray_n l D cT X I a b x y z u v w nb T tl tb ft la szz ce hCI hb) (fun r hp => ⟨fun z => absurd z hb, fun _ => hp⟩)
