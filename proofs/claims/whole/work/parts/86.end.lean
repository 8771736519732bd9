/-! THE CLAIM OUT OF ONE WALK OF THE LAW'S BODY. Your part is whole_start (and what it stands on); all else here is the same for every law, but numbers. -/
def R_law : String := "SignSolidsLaw"
def lw_P (b : Addr) (xs : List Int32) (args : Array Value) (s : State) : Prop := args = #[.ref b] ∧ s.IntsAt b xs ∧ xs.length ≤ 4608 ∧ (Jvm.Cond.and given_1 narrow_1).before args s = true
def lw_Q (_ : Array Value) (s : State) (o : Outcome) (t : State) : Prop := o = .returned (some (.int 1)) ∧ Framed s o t [] 600000 7302250
def lw_Z (below : List Frame) (a : Array Value) (s : State) : State → Prop := fun t => ∃ o, t.status = .running ∧ Ended t below o ∧ lw_Q a s o t
/-- the law's own end, with 1 on the stack, nothing written that was there before, its room as the claim has it -/
theorem lw_ret {p : Program} {l : Launch} {e : Env} {s : State} {m : MethodId} {below : List Frame} {meth : Method} {c : Code} {b : Nat} (hx : p.tables.exec = Jvm.exec) (hb : c.code = code) (hr : meth.sig.returnType = ret) (hlocks : meth.locks = false) {pc : Nat} {H : Heap} {ls : Array Slot} (hdg : decode code pc = .ok (.ireturn, 1)) : W p l e room_1 s m #[Value.ref b] below meth c H [] 600000 7302250 (lw_Z below #[Value.ref b] s) (F0 m pc ls [.int 1]) := by
  intro T hT X
  obtain ⟨fs, hret, hrun, hended, hW, hframe⟩ := X.leave (v := some (.int 1)) (hlocks := hlocks) (fun h => by rw [hr] at h; cases h)
  have hmeth' : T.vm.method? m = some meth := X.method'
  refine ⟨T.setFrames fs, ?_, .returned (some (.int 1)), hrun, hended, rfl, ⟨_, rfl⟩, hW, hframe⟩
  jvm_step X.here [X.here.top, hx, hb, hdg, hmeth', hr, ret, narrow_b1]
  (try refine ⟨rfl, ?_⟩); (try refine ⟨rfl, ?_⟩)
  first | (intro acts; rw [hret _ acts rfl rfl rfl]) | rw [hret _ _ rfl rfl rfl]
  exact Steps.refl _
/-- what holds at the law's entry: the machine, the code, the tables' words (any of lw_tbl by 'hts w (by decide +kernel)'), the script of L ints xs at the cell b, what the Statement gives of the start (any of its parts by flat_of_before) -/
def lw_At (p : Program) (s : State) (m : MethodId) (meth : Method) (c : Code) (b L : Nat) (xs : Nat → Int32) : Prop :=
  p.tables.exec = Jvm.exec ∧ c.code = code ∧ meth.sig.returnType = ret ∧ c.maxLocals = 4 ∧ s.vm.findClass R_law = some m.cls ∧ (∀ w ∈ lw_tbl, w.before #[Value.ref b] s = true) ∧ va_X b L xs s s.heap ∧ b < s.heap.size ∧ meth.locks = false ∧ (Jvm.Cond.and given_1 narrow_1).before #[Value.ref b] s = true
-- ===== YOUR PART BEGINS =====
theorem fs_Mo : ∀ j, j < 46 → defaultValue (t_Mo j) = vp_V ([.int 0, .null, .null, .null, .null, .null, .int 0, .int 0, .int 0, .int 0, .int 0, .int 0, .int 0, .int 0, .null, .null, .null, .null, .null, .null, .null, .null, .null, .null, .long 0, .long 0, .null, .int 0, .int 0, .int 0, .int 0, .int 0, .int 0, .null, .null, .null, .null, .null, .null, .int 0, .int 0, .int 0, .int 0, .null, .null, .null]) j := fun j hj => by
  rcases (show j = 0 ∨ j = 1 ∨ j = 2 ∨ j = 3 ∨ j = 4 ∨ j = 5 ∨ j = 6 ∨ j = 7 ∨ j = 8 ∨ j = 9 ∨ j = 10 ∨ j = 11 ∨ j = 12 ∨ j = 13 ∨ j = 14 ∨ j = 15 ∨ j = 16 ∨ j = 17 ∨ j = 18 ∨ j = 19 ∨ j = 20 ∨ j = 21 ∨ j = 22 ∨ j = 23 ∨ j = 24 ∨ j = 25 ∨ j = 26 ∨ j = 27 ∨ j = 28 ∨ j = 29 ∨ j = 30 ∨ j = 31 ∨ j = 32 ∨ j = 33 ∨ j = 34 ∨ j = 35 ∨ j = 36 ∨ j = 37 ∨ j = 38 ∨ j = 39 ∨ j = 40 ∨ j = 41 ∨ j = 42 ∨ j = 43 ∨ j = 44 ∨ j = 45 by omega) with rfl | rfl | rfl | rfl | rfl | rfl | rfl | rfl | rfl | rfl | rfl | rfl | rfl | rfl | rfl | rfl | rfl | rfl | rfl | rfl | rfl | rfl | rfl | rfl | rfl | rfl | rfl | rfl | rfl | rfl | rfl | rfl | rfl | rfl | rfl | rfl | rfl | rfl | rfl | rfl | rfl | rfl | rfl | rfl | rfl | rfl <;> rfl
set_option maxHeartbeats 2000000 in
set_option maxRecDepth 100000 in
theorem law_loop {p : Program} {e : Env} {s : State} {m : MethodId} {below : List Frame} {meth : Method} {c : Code} (l : Launch) {b L : Nat} {xs : Nat → Int32} (hL : L ≤ 4608) (C0 : lw_At p s m meth c b L xs) {D : va_G} {cT : Nat → ClassId} {ad : Nat → Nat} {adK adV : Nat → Nat} (hK : KE D cT s) (hZ : SE adK adV s.heap.size s) (hAd : AdOk ad) :
    ∀ (n i cells slots : Nat), i ≤ L → L + 1 ≤ i + 9 * n → cells + 111 * n ≤ 600000 → slots + 884 * n ≤ 7302250 → ∀ (X : CX) (I : Nat → Int32) (a : Nat → Nat → Int32) (Im : Nat → Int32) (Jm : Nat → Int64) (am : Nat → Nat → Int32) (gz : Nat → Nat → Int64) (H : Heap) (locs : List Loc), NM D (fun q => s.heap.size ≤ q) (cw cT X I a ++ mw cT ad Im Jm am gz) s.heap H locs → LI X I a Im am → ∀ ls : Array Slot, lv_has ls 4 [(0, .ref b), (1, .ref (X.1 0)), (2, .ref (ad 46)), (3, .int (nI i))] → W p l e room_1 s m #[Value.ref b] below meth c H locs cells slots (lw_Z below #[Value.ref b] s) (F0 m 18 ls []) := by
  have hC : CallFix p m c code 4 s #[Value.ref b] GW R_La := ⟨C0.1, C0.2.1, C0.2.2.2.1, C0.2.2.2.2.1, fun w h => C0.2.2.2.2.2.1 w (List.mem_filter.mp h).1⟩
  obtain ⟨hx, hb, hr, hml, hown, hts, hX, hbl, hlocks, hgv⟩ := C0
  intro n
  induction n with
  | zero =>
    intro i cells slots h1 h2
    exact absurd h2 (by omega)
  | succ n ih =>
    intro i cells slots hi hin hcs hss X I a Im Jm am gz H locs hJ hLI ls hl
    refine lv_iload_n hx hb d_law_18 rfl (lv_at hl 3 rfl) ?_
    refine lv_aload_n hx hb d_law_19 rfl (lv_at hl 0 rfl) ?_
    refine va_slen hx hb hX hbl (Nat.not_le.mpr hbl) hJ.2.2 d_law_20 ?_
    refine lv_bipush (v := 9) hx hb d_law_21 (by decide) ?_
    refine lv_isub hx hb d_law_23 ?_
    refine topi_eq (y := iI ((L : Int) - 9)) (iI_sub (L : Int) 9) ?_
    refine zc_gt hx hb (i : Int) ((L : Int) - 9) (by omega) (by omega) (by omega) (by omega) d_law_24 (tgt := 1054) (by decide) (fun _ => ?_) (fun hle => ?_)
    · refine lv_iconst (v := 1) hx hb d_law_1054 (by decide) ?_
      refine va_forget (fun q hq => hJ.2.2.2.2 q hq) ?_
      refine W.widen (k := 600000) (n := 7302250) (by omega) (by omega) ?_
      exact lw_ret hx hb hr hlocks d_law_1055
    · have hi9 : i + 9 ≤ L ∧ L ≤ 4608 := ⟨by omega, hL⟩
      have hcc : cells + 111 ≤ 600000 ∧ slots + 884 ≤ 7302250 := ⟨by omega, by omega⟩
      have cont : ∀ (X' : CX) (I' : Nat → Int32) (a' : Nat → Nat → Int32) (Im' : Nat → Int32) (Jm' : Nat → Int64) (am' : Nat → Nat → Int32) (gz' : Nat → Nat → Int64) (H' : Heap) (locs' : List Loc), NM D (fun q => s.heap.size ≤ q) (cw cT X' I' a' ++ mw cT ad Im' Jm' am' gz') s.heap H' locs' → LI X' I' a' Im' am' → X'.1 0 = X.1 0 → W p l e room_1 s m #[Value.ref b] below meth c H' locs' (cells + 111) (slots + 884) (lw_Z below #[Value.ref b] s) (F0 m 1048 ls []) := by
        intro X' I' a' Im' Jm' am' gz' H' locs' hJ' hLI' h0
        refine lv_iinc (v := nI (i + 9)) (lv' := [(3, .int (nI (i + 9))), (0, .ref b), (1, .ref (X.1 0)), (2, .ref (ad 46))]) hx hb d_law_1048 hl (k := 3) rfl (nI_add i 9) (by decide) rfl (fun ls hl => ?_)
        refine lv_goto (tgt := 18) hx hb d_law_1051 (by decide) ?_
        rw [← h0] at hl
        exact ih (i + 9) (cells + 111) (slots + 884) (by omega) (by omega) (by omega) (by omega) X' I' a' Im' Jm' am' gz' H' locs' hJ' hLI' ls (lv_sub hl [1, 2, 3, 0] rfl)
      refine lv_aload_n hx hb d_law_27 rfl (lv_at hl 0 rfl) ?_
      refine lv_iload_n hx hb d_law_28 rfl (lv_at hl 3 rfl) ?_
      refine va_sld hx hb hX hbl (Nat.not_le.mpr hbl) hJ.2.2 (vp_in_nI (n := i) (by omega) (by omega)) d_law_29 ?_
      rw [nI_clN (by omega)]
      refine lv_bipush (v := 31) hx hb d_law_30 (by decide) ?_
      refine lv_iand hx hb d_law_32 ?_
      refine lv_topi (fun z ez => ?_)
      clear ez
      by_cases h_0 : z = 0
      · have ev : z.toInt = 0 := by rw [h_0]; rfl
        refine lv_tableIn (tgt := 136) hx hb d_law_33 (by rw [ev]; decide) (by rw [ev]; decide) (by rw [ev]; rfl) (by decide) ?_
        exact op_feed hC hK hX hbl hZ hAd hi9 hcc hJ hLI hl cont
      by_cases h_1 : z = 1
      · have ev : z.toInt = 1 := by rw [h_1]; rfl
        refine lv_tableIn (tgt := 189) hx hb d_law_33 (by rw [ev]; decide) (by rw [ev]; decide) (by rw [ev]; rfl) (by decide) ?_
        exact op_end hC hK hX hbl hZ hAd hi9 hcc hJ hLI hl cont
      by_cases h_2 : z = 2
      · have ev : z.toInt = 2 := by rw [h_2]; rfl
        refine lv_tableIn (tgt := 212) hx hb d_law_33 (by rw [ev]; decide) (by rw [ev]; decide) (by rw [ev]; rfl) (by decide) ?_
        exact op_body hC hK hX hbl hZ hAd hi9 hcc hJ hLI hl cont
      by_cases h_3 : z = 3
      · have ev : z.toInt = 3 := by rw [h_3]; rfl
        refine lv_tableIn (tgt := 225) hx hb d_law_33 (by rw [ev]; decide) (by rw [ev]; decide) (by rw [ev]; rfl) (by decide) ?_
        exact op_fault hC hK hX hbl hZ hAd hi9 hcc hJ hLI hl cont
      by_cases h_4 : z = 4
      · have ev : z.toInt = 4 := by rw [h_4]; rfl
        refine lv_tableIn (tgt := 238) hx hb d_law_33 (by rw [ev]; decide) (by rw [ev]; decide) (by rw [ev]; rfl) (by decide) ?_
        exact op_drop hC hK hX hbl hZ hAd hi9 hcc hJ hLI hl cont
      by_cases h_5 : z = 5
      · have ev : z.toInt = 5 := by rw [h_5]; rfl
        refine lv_tableIn (tgt := 251) hx hb d_law_33 (by rw [ev]; decide) (by rw [ev]; decide) (by rw [ev]; rfl) (by decide) ?_
        exact op_rule hC hK hX hbl hZ hAd hi9 hcc hJ hLI hl cont
      by_cases h_6 : z = 6
      · have ev : z.toInt = 6 := by rw [h_6]; rfl
        refine lv_tableIn (tgt := 304) hx hb d_law_33 (by rw [ev]; decide) (by rw [ev]; decide) (by rw [ev]; rfl) (by decide) ?_
        by_cases hz : xs (i + 8) = 0
        · exact op_span0 hz hC hK hX hbl hZ hAd hi9 hcc hJ hLI hl cont
        · exact op_span1 hz hC hK hX hbl hZ hAd hi9 hcc hJ hLI hl cont
      by_cases h_7 : z = 7
      · have ev : z.toInt = 7 := by rw [h_7]; rfl
        refine lv_tableIn (tgt := 419) hx hb d_law_33 (by rw [ev]; decide) (by rw [ev]; decide) (by rw [ev]; rfl) (by decide) ?_
        exact op_parted hC hK hX hbl hZ hAd hi9 hcc hJ hLI hl cont
      by_cases h_8 : z = 8
      · have ev : z.toInt = 8 := by rw [h_8]; rfl
        refine lv_tableIn (tgt := 452) hx hb d_law_33 (by rw [ev]; decide) (by rw [ev]; decide) (by rw [ev]; rfl) (by decide) ?_
        exact op_volume hC hK hX hbl hZ hAd hi9 hcc hJ hLI hl cont
      by_cases h_9 : z = 9
      · have ev : z.toInt = 9 := by rw [h_9]; rfl
        refine lv_tableIn (tgt := 475) hx hb d_law_33 (by rw [ev]; decide) (by rw [ev]; decide) (by rw [ev]; rfl) (by decide) ?_
        exact op_point hC hK hX hbl hZ hAd hi9 hcc hJ hLI hl cont
      by_cases h_10 : z = 10
      · have ev : z.toInt = 10 := by rw [h_10]; rfl
        refine lv_tableIn (tgt := 518) hx hb d_law_33 (by rw [ev]; decide) (by rw [ev]; decide) (by rw [ev]; rfl) (by decide) ?_
        exact op_skin hC hK hX hbl hZ hAd hi9 hcc hJ hLI hl cont
      by_cases h_11 : z = 11
      · have ev : z.toInt = 11 := by rw [h_11]; rfl
        refine lv_tableIn (tgt := 551) hx hb d_law_33 (by rw [ev]; decide) (by rw [ev]; decide) (by rw [ev]; rfl) (by decide) ?_
        exact op_parts hC hK hX hbl hZ hAd hi9 hcc hJ hLI hl cont
      by_cases h_12 : z = 12
      · have ev : z.toInt = 12 := by rw [h_12]; rfl
        refine lv_tableIn (tgt := 584) hx hb d_law_33 (by rw [ev]; decide) (by rw [ev]; decide) (by rw [ev]; rfl) (by decide) ?_
        exact op_part hC hK hX hbl hZ hAd hi9 hcc hJ hLI hl cont
      by_cases h_13 : z = 13
      · have ev : z.toInt = 13 := by rw [h_13]; rfl
        refine lv_tableIn (tgt := 637) hx hb d_law_33 (by rw [ev]; decide) (by rw [ev]; decide) (by rw [ev]; rfl) (by decide) ?_
        exact op_slice hC hK hX hbl hZ hAd hi9 hcc hJ hLI hl cont
      by_cases h_14 : z = 14
      · have ev : z.toInt = 14 := by rw [h_14]; rfl
        refine lv_tableIn (tgt := 680) hx hb d_law_33 (by rw [ev]; decide) (by rw [ev]; decide) (by rw [ev]; rfl) (by decide) ?_
        exact op_thin hC hK hX hbl hZ hAd hi9 hcc hJ hLI hl cont
      by_cases h_15 : z = 15
      · have ev : z.toInt = 15 := by rw [h_15]; rfl
        refine lv_tableIn (tgt := 713) hx hb d_law_33 (by rw [ev]; decide) (by rw [ev]; decide) (by rw [ev]; rfl) (by decide) ?_
        exact op_overhang hC hK hX hbl hZ hAd hi9 hcc hJ hLI hl cont
      by_cases h_16 : z = 16
      · have ev : z.toInt = 16 := by rw [h_16]; rfl
        refine lv_tableIn (tgt := 746) hx hb d_law_33 (by rw [ev]; decide) (by rw [ev]; decide) (by rw [ev]; rfl) (by decide) ?_
        exact op_both hC hK hX hbl hZ hAd hi9 hcc hJ hLI hl cont
      by_cases h_17 : z = 17
      · have ev : z.toInt = 17 := by rw [h_17]; rfl
        refine lv_tableIn (tgt := 789) hx hb d_law_33 (by rw [ev]; decide) (by rw [ev]; decide) (by rw [ev]; rfl) (by decide) ?_
        exact op_ray hC hK hX hbl hZ hAd hi9 hcc hJ hLI hl cont
      by_cases h_18 : z = 18
      · have ev : z.toInt = 18 := by rw [h_18]; rfl
        refine lv_tableIn (tgt := 876) hx hb d_law_33 (by rw [ev]; decide) (by rw [ev]; decide) (by rw [ev]; rfl) (by decide) ?_
        exact op_sheet hC hK hX hbl hZ hAd hi9 hcc hJ hLI hl cont
      by_cases h_19 : z = 19
      · have ev : z.toInt = 19 := by rw [h_19]; rfl
        refine lv_tableIn (tgt := 919) hx hb d_law_33 (by rw [ev]; decide) (by rw [ev]; decide) (by rw [ev]; rfl) (by decide) ?_
        exact op_lay hC hK hX hbl hZ hAd hi9 hcc hJ hLI hl cont
      by_cases h_20 : z = 20
      · have ev : z.toInt = 20 := by rw [h_20]; rfl
        refine lv_tableIn (tgt := 962) hx hb d_law_33 (by rw [ev]; decide) (by rw [ev]; decide) (by rw [ev]; rfl) (by decide) ?_
        exact op_scan hC hK hX hbl hZ hAd hi9 hcc hJ hLI hl cont
      by_cases h_21 : z = 21
      · have ev : z.toInt = 21 := by rw [h_21]; rfl
        refine lv_tableIn (tgt := 1025) hx hb d_law_33 (by rw [ev]; decide) (by rw [ev]; decide) (by rw [ev]; rfl) (by decide) ?_
        exact op_count hC hK hX hbl hZ hAd hi9 hcc hJ hLI hl cont
      have ev : z.toInt < 0 ∨ 21 < z.toInt := by
        have z0 : z.toInt ≠ 0 := fun q => h_0 (Int32.toInt_inj.mp (q.trans (by rfl)))
        have z1 : z.toInt ≠ 1 := fun q => h_1 (Int32.toInt_inj.mp (q.trans (by rfl)))
        have z2 : z.toInt ≠ 2 := fun q => h_2 (Int32.toInt_inj.mp (q.trans (by rfl)))
        have z3 : z.toInt ≠ 3 := fun q => h_3 (Int32.toInt_inj.mp (q.trans (by rfl)))
        have z4 : z.toInt ≠ 4 := fun q => h_4 (Int32.toInt_inj.mp (q.trans (by rfl)))
        have z5 : z.toInt ≠ 5 := fun q => h_5 (Int32.toInt_inj.mp (q.trans (by rfl)))
        have z6 : z.toInt ≠ 6 := fun q => h_6 (Int32.toInt_inj.mp (q.trans (by rfl)))
        have z7 : z.toInt ≠ 7 := fun q => h_7 (Int32.toInt_inj.mp (q.trans (by rfl)))
        have z8 : z.toInt ≠ 8 := fun q => h_8 (Int32.toInt_inj.mp (q.trans (by rfl)))
        have z9 : z.toInt ≠ 9 := fun q => h_9 (Int32.toInt_inj.mp (q.trans (by rfl)))
        have z10 : z.toInt ≠ 10 := fun q => h_10 (Int32.toInt_inj.mp (q.trans (by rfl)))
        have z11 : z.toInt ≠ 11 := fun q => h_11 (Int32.toInt_inj.mp (q.trans (by rfl)))
        have z12 : z.toInt ≠ 12 := fun q => h_12 (Int32.toInt_inj.mp (q.trans (by rfl)))
        have z13 : z.toInt ≠ 13 := fun q => h_13 (Int32.toInt_inj.mp (q.trans (by rfl)))
        have z14 : z.toInt ≠ 14 := fun q => h_14 (Int32.toInt_inj.mp (q.trans (by rfl)))
        have z15 : z.toInt ≠ 15 := fun q => h_15 (Int32.toInt_inj.mp (q.trans (by rfl)))
        have z16 : z.toInt ≠ 16 := fun q => h_16 (Int32.toInt_inj.mp (q.trans (by rfl)))
        have z17 : z.toInt ≠ 17 := fun q => h_17 (Int32.toInt_inj.mp (q.trans (by rfl)))
        have z18 : z.toInt ≠ 18 := fun q => h_18 (Int32.toInt_inj.mp (q.trans (by rfl)))
        have z19 : z.toInt ≠ 19 := fun q => h_19 (Int32.toInt_inj.mp (q.trans (by rfl)))
        have z20 : z.toInt ≠ 20 := fun q => h_20 (Int32.toInt_inj.mp (q.trans (by rfl)))
        have z21 : z.toInt ≠ 21 := fun q => h_21 (Int32.toInt_inj.mp (q.trans (by rfl)))
        omega
      refine lv_tableOut (tgt := 1048) hx hb d_law_33 ev (by decide) ?_
      refine W.widen (k := cells + 111) (n := slots + 884) (by omega) (by omega) ?_
      exact cont X I a Im Jm am gz H locs hJ hLI rfl
set_option maxHeartbeats 2000000 in
set_option maxRecDepth 100000 in
theorem whole_start {p : Program} {e : Env} {s : State} {m : MethodId} {below : List Frame} {meth : Method} {c : Code} (l : Launch) {b L : Nat} {xs : Nat → Int32} (hL : L ≤ 4608) (C0 : lw_At p s m meth c b L xs) : W p l e room_1 s m #[Value.ref b] below meth c s.heap [] 0 0 (lw_Z below #[Value.ref b] s) (entryFrame m ([Value.ref b] : List Value).toArray 4) := by
  have hC : CallFix p m c code 4 s #[Value.ref b] GW R_La := ⟨C0.1, C0.2.1, C0.2.2.2.1, C0.2.2.2.2.1, fun w h => C0.2.2.2.2.2.1 w (List.mem_filter.mp h).1⟩
  obtain ⟨hx, hb, hr, hml, hown, hts, hX, hbl, hlocks, hgv⟩ := id C0
  obtain ⟨D, cT, hK⟩ := start_KE hts
  obtain ⟨adK, adV, hZ⟩ := start_SE hts hgv
  have hA : ∀ q : Nat, s.heap.size ≤ q → (fun q : Nat => s.heap.size ≤ q) q := fun _ h => h
  have hM : NM D (fun q => s.heap.size ≤ q) [] s.heap s.heap [] := ⟨fun k q h => by simp at h, ⟨fun i j p q h => by simp at h, fun k q h => by simp at h⟩, va_S.rf⟩
  have hl := lv_entry ([.ref b]) (n := 4) (Nat.le_of_ble_eq_true rfl)
  rw [lg_entry_eq]
  generalize (lg_sl ([.ref b]) ++ List.replicate (4 - (lg_sl ([.ref b])).length) Slot.unset).toArray = ls at hl ⊢
  have hl : lv_has ls 4 [(0, .ref b)] := hl
  refine nm_new (ci := 11) (fs := [.null, .null, .null, .int 0, .int 0, .null, .null]) hC in_So t_So t_So_ok wk_La_7 wz_So wn_So hK hM hA rfl (fun j hj => by rcases (show j = 0 ∨ j = 1 ∨ j = 2 ∨ j = 3 ∨ j = 4 ∨ j = 5 ∨ j = 6 by omega) with rfl | rfl | rfl | rfl | rfl | rfl | rfl <;> rfl) (Nat.le_of_ble_eq_true rfl) (Nat.le_of_ble_eq_true rfl) d_law_0 (fun q H hM => ?_)
  refine lv_dup hx hb d_law_3 rfl ?_
  have hm := c_So_init l D cT q H.size
  refine nm_init (np := 0) (rest := [.ref q]) hC hK hM hA hm ⟨wl_La_9, wi_So_init, wc_So_init, wn_So⟩ rfl ⟨by decide, by decide, by decide +kernel⟩ ⟨Nat.le_of_ble_eq_true rfl, Nat.le_of_ble_eq_true rfl⟩ hl.1 rfl rfl (Nat.le_of_ble_eq_true rfl) ⟨Nat.le_of_ble_eq_true rfl, Nat.le_of_ble_eq_true rfl⟩ d_law_4 (fun w1 H locs hp hM => ?_)
  obtain ⟨x1, x2, x3, x4, x5, x6, x7, x8, x9, x10, x11, x12, x13, x14, x15, x16, x17, rfl⟩ := hp
  replace hM := so_world (D := D) (cT := cT) hM
  refine lv_astore_n (lv' := [(1, .ref q), (0, .ref b)]) hx hb d_law_7 rfl hl (by decide) rfl (fun ls hl => ?_)
  refine nm_new (ci := 12) (fs := [.int 0, .null, .null, .null, .null, .null, .int 0, .int 0, .int 0, .int 0, .int 0, .int 0, .int 0, .int 0, .null, .null, .null, .null, .null, .null, .null, .null, .null, .null, .long 0, .long 0, .null, .int 0, .int 0, .int 0, .int 0, .int 0, .int 0, .null, .null, .null, .null, .null, .null, .int 0, .int 0, .int 0, .int 0, .null, .null, .null]) hC in_Mo t_Mo t_Mo_ok wk_La_10 wz_Mo wn_Mo hK hM hA rfl fs_Mo (Nat.le_of_ble_eq_true rfl) (Nat.le_of_ble_eq_true rfl) d_law_8 (fun q2 H hM => ?_)
  refine lv_dup hx hb d_law_11 rfl ?_
  have hm2 := c_Mo_init l D cT q2 H.size
  refine nm_init (np := 0) (rest := [.ref q2]) hC hK hM hA hm2 ⟨wl_La_12, wi_Mo_init, wc_Mo_init, wn_Mo⟩ rfl ⟨by decide, by decide, by decide +kernel⟩ ⟨Nat.le_of_ble_eq_true rfl, Nat.le_of_ble_eq_true rfl⟩ hl.1 rfl rfl (Nat.le_of_ble_eq_true rfl) ⟨Nat.le_of_ble_eq_true rfl, Nat.le_of_ble_eq_true rfl⟩ d_law_12 (fun w2 H locs hp hM => ?_)
  obtain ⟨y1, y2, y3, y4, y5, y6, y7, y8, y9, y10, y11, y12, y13, y14, y15, y16, y17, y18, y19, y20, y21, y22, y23, y24, y25, rfl⟩ := hp
  have hJ : NM D (fun q => s.heap.size ≤ q) (cw cT (X00 [q, x1, x2, x3, x4, x5, x6, x7, x8, x9, x10, x11, x12, x13, x14, x15, x16, x17]) I00 a00 ++ mw cT (ad00 q2 [y1, y2, y3, y4, y5, y6, y7, y8, y9, y10, y11, y12, y13, y14, y15, y16, y17, y18, y19, y20, y21, y22, y23, y24, y25]) (fun _ => 0) (fun _ => 0) am00 (fun _ _ => 0)) s.heap H locs := hM
  refine lv_astore_n (lv' := [(2, .ref q2), (1, .ref q), (0, .ref b)]) hx hb d_law_15 rfl hl (by decide) rfl (fun ls hl => ?_)
  refine lv_iconst (v := 0) hx hb d_law_16 (by decide) ?_
  refine lv_istore_n (lv' := [(3, .int 0), (2, .ref q2), (1, .ref q), (0, .ref b)]) hx hb d_law_17 rfl hl (by decide) rfl (fun ls hl => ?_)
  refine law_loop l hL C0 hK hZ (AdOk00 q2 [y1, y2, y3, y4, y5, y6, y7, y8, y9, y10, y11, y12, y13, y14, y15, y16, y17, y18, y19, y20, y21, y22, y23, y24, y25]) (L / 9 + 1) 0 _ _ (Nat.zero_le _) (by omega) ?_ ?_ _ _ _ _ _ _ _ H locs hJ LI_00 ls (lv_sub hl [3, 2, 1, 0] rfl)
  · show 44 + 111 * (L / 9 + 1) ≤ 600000; omega
  · show 36833 + 884 * (L / 9 + 1) ≤ 7302250; omega
-- ===== YOUR PART ENDS =====
set_option maxHeartbeats 4000000 in
theorem lw_walk (l : Launch) (b : Addr) (xs : List Int32) : MetFree l x (headSpec (Jvm.Cond.code x code maxLocals ret :: tables_1) room_1) (lw_P b xs) (fun _ _ _ _ _ => True) lw_Q := by
  refine MetFree.of_bodyS (code := code) (maxLocals := maxLocals) (ret := ret) (by decide) ?_ ?_
  · intro args s m h hn
    obtain ⟨meth, c, h1, h2, h3, h4, h5, h6, -, -⟩ := Cond.code_spec hn (atoms_spec (ws := Jvm.Cond.code x code maxLocals ret :: tables_1) h _ List.mem_cons_self)
    exact ⟨meth, c, h1, h2, h3, h4, h5, h6⟩
  · intro p e s m args below meth c s₁ B hml0 hP _
    obtain ⟨rfl, hx, hbd, hgv⟩ := hP
    obtain ⟨scr, harrAt, hlist, hof, hsmall⟩ := hx
    obtain ⟨hcb, hkn, -, -⟩ := State.arrayAt?_spec harrAt
    have hown : s.vm.findClass R_law = some m.cls := findClass_of_methodNamed B.named
    have hts0 : ∀ c ∈ (Jvm.Cond.code x code maxLocals ret :: tables_1), c.before #[Value.ref b] s = true := atoms_spec (ws := Jvm.Cond.code x code maxLocals ret :: tables_1) B.pre
    have hts : ∀ w ∈ lw_tbl, w.before #[Value.ref b] s = true := k2_hts_sels lw_privs (fun w hw => hts0 w (List.mem_cons_of_mem _ hw)) lw_privs_ok
    have hml : c.maxLocals = 4 := B.maxLocals_eq (hts0 _ List.mem_cons_self)
    have X₀ : Stand p l e room_1 s m #[Value.ref b] below meth c s₁ [] 0 0 := Stand.of_body B
    have hh0 : s₁.heap = s.heap := by rw [B.state]; rfl
    have hsz : scr.slots.size = xs.length := by rw [← Array.length_toList, hlist, List.length_map]
    have hval : ∀ j : Nat, j < xs.length → scr.slots[j]? = some (.int (xs.getD j 0)) := fun j hj => by
      rw [← Array.getElem?_toList, hlist]
      simp [hj]
    have hbl : b < s.heap.size := (Array.getElem?_eq_some_iff.mp hcb).1
    have hX : va_X b xs.length (fun j => xs.getD j 0) s s.heap := ⟨scr, hcb, hof, hkn, hsz, hval⟩
    have K : W p l e room_1 s m #[Value.ref b] below meth c s₁.heap [] 0 0 (lw_Z below #[Value.ref b] s) (entryFrame m ([Value.ref b] : List Value).toArray 4) := by
      rw [hh0]
      exact whole_start l hbd ⟨B.exec, B.bytes, B.returns, hml, hown, hts, hX, hbl, B.notSynchronized, hgv⟩
    obtain ⟨t, a1, o, b1, b2, b3⟩ := K s₁ rfl X₀
    exact ⟨t, o, a1, b1, b2, b3⟩
theorem lw_pre_spec {args : Array Value} {s : State} (h : (Jvm.Cond.and given_1 narrow_1).before args s = true) (hr : rest_1_c.before args s = true) : ∃ (b : Addr) (xs : List Int32), lw_P b xs args s := by
  have hs := flat_of_before _ h
  have hq := flat_of_before _ hr
  have hc : (Cond.count 1).before args s = true := hs _ (by decide +kernel)
  have harr : (Cond.arrayOf (.arg 0) .int).before args s = true := hs _ (by decide +kernel)
  have hle : (Cond.le (.length (.arg 0)) (.int 4608)).before args s = true := hs _ (by decide +kernel)
  have hlen : (Cond.isInt (.length (.arg 0))).before args s = true := hq _ (by decide +kernel)
  have hall : (Cond.all (.arg 0) (.isInt (.elem (.arg 0) (.index 0)))).before args s = true := hq _ (by decide +kernel)
  obtain ⟨b, xs, hb, hx⟩ := State.ints_of_pre rfl harr hlen hall
  have hsm : xs.length < 2 ^ 31 := hx.choose_spec.2.2.2
  have hev : (Term.length (.arg 0)).eval args s none [] s = some (.int xs.length.toInt32) := hx.length_eval hb
  have hv := Cond.le_ints hev (show (Term.int 4608).eval args s none [] s = some (.int 4608) from rfl)
  have hd : xs.length.toInt32 ≤ 4608 := by
    simpa [Cond.before, Cond.holds, hv] using hle
  have hN : xs.length ≤ 4608 := (Int32.ofNat_le_ofNat hsm (by decide)).mp (show Int32.ofNat xs.length ≤ Int32.ofNat 4608 from hd)
  exact ⟨b, xs, Cond.one_arg hc (show args[0]? = some (.ref b) from hb), hx, hN, h⟩
theorem lw_comes (l : Launch) : Comes l x (Jvm.Cond.code x code maxLocals ret :: tables_1) room_1 (fun tb e args s => Calls_1 tb e args s ∧ rest_1 tb e args s ∧ Pre_1 tb e args s)
    (fun _ _ args s o t => lw_Q args s o t) := by
  intro p e ha hc hk s m args below hf hfit hheap happ hpre
  obtain ⟨b, xs, hP⟩ := lw_pre_spec hpre.2.2 hpre.2.1
  obtain ⟨k, o, h1, h2, h3, hQ⟩ := lw_walk l b xs p e ha hc hk s m args below hf ((Spec.applies_iff_loose hf).mp happ).1 hP trivial
  exact ⟨k, o, h1, h2, h3, hQ⟩
theorem lw_frame {s t : State} {o : Outcome} {args : Array Value} (h : Framed s o t [] 600000 7302250) :
    Framed s o t (fieldLocs frame_1_writes args s ++ arrayLocs frame_1_arrays args s ++ staticLocs frame_1_statics s) 600000 7302250 := h
theorem lw_limb (L : Cond) (hL : ∀ (args : Array Value) (s t : State), L.after args s (.returned (some (.int 1))) t = true) :
    ArmFor flags0 classFile x code maxLocals ret World_1 tables_1 room_1 Calls_1 rest_1 Pre_1
      (fun tb e a s o t => postC L tb e a s o t ∧ Framed s o t (fieldLocs frame_1_writes a s ++ arrayLocs frame_1_arrays a s ++ staticLocs frame_1_statics s) 600000 7302250) := by
  intro l _ _ _ p e ha hc hk s m args below hf hfit hheap happ hpre
  obtain ⟨k, o, h1, h2, h3, rfl, hF⟩ := lw_comes l p e ha hc hk s m args below hf hfit hheap happ hpre
  exact ⟨k, _, h1, h2, h3, hL args s _, lw_frame hF⟩
theorem i_vc : Claimed_1_1 ∧ Claimed_1_2 := ⟨lw_limb limb_1_1 (fun args s t => by simp [limb_1_1, Cond.after, Cond.holds, Cond.value]), lw_limb limb_1_2 (fun args s t => Cond.after_iff.mpr (by
  first | (rw [show limb_1_2 = Cond.eq .result (.int 1) from rfl, Cond.eq_ints (x := 1) (y := 1) rfl rfl]; simp; done) | (simp [limb_1_2, Cond.value, Term.eval]; done)))⟩
