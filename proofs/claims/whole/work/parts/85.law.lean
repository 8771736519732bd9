/-! the law: one operation after another -/
def fdv (x y : Int32) : Int64 := x.toInt64 <<< ((32 : Int32).toInt64 &&& 63) ||| (y.toInt64 &&& 4294967295)
theorem hlen_of {X : CX} {I : Nat → Int32} {a : Nat → Nat → Int32} {Im : Nat → Int32} {am : Nat → Nat → Int32} {nb : Nat} {T : Nat → TX} {tl : Nat} {tb : Nat → Nat} {ft : Int32} {la : Nat → Int32} {szz : Nat → Nat} {ce : Nat → Nat → Int32} (hCI : CI X I a nb T tl tb ft la szz ce) (hRI : RI Im am nb T tl tb ft la szz ce) : ∀ q : Nat, q ≤ 3 → 0 ≤ (am 44 q).toInt ∧ (am 44 q).toInt ≤ 64 := fun q hq => by
  have h1 := (hRI.2.2.2.2 q (by omega)).2.2.1
  have h2 := (hCI.2.2.2.2 q (by omega)).2.1.2
  rw [h1, nI_toInt (by omega)]
  omega

section LAW
variable {p : Program} {l : Launch} {e : Env} {s : State} {m : MethodId} {below : List Frame} {meth : Method} {c : Code} {H : Heap} {locs : List Loc} {cells slots : Nat} {Q : State → Prop} {ls : Array Slot} {rest : List Value} {b L i : Nat} {xs : Nat → Int32}
variable {D : va_G} {cT : Nat → ClassId} {X : CX} {I : Nat → Int32} {a : Nat → Nat → Int32} {ad : Nat → Nat} {Im : Nat → Int32} {Jm : Nat → Int64} {am : Nat → Nat → Int32} {gz : Nat → Nat → Int64} {adK adV : Nat → Nat}

theorem la_c {pc j : Nat} {n : Int} (hx : p.tables.exec = Jvm.exec) (hb : c.code = code) (hX : va_X b L xs s s.heap) (hbl : b < s.heap.size) (hS : va_S (fun q => s.heap.size ≤ q) s.heap H locs) (hi : i + 9 ≤ L ∧ L ≤ 4608) {lv : List (Nat × Value)} (hl : lv_has ls 4 lv) (h0 : lv[0]? = some (0, .ref b)) (h3 : lv[3]? = some (3, .int (nI i))) (hj : j < 9) (hv : Int32.ofInt n = nI j) (d0 : decode code pc = .ok (.aload_n 0, 1)) (d1 : decode code (pc + 1) = .ok (.iload_n 3, 1)) (d2 : decode code (pc + 1 + 1) = .ok (.iconst n, 1)) (d3 : decode code (pc + 1 + 1 + 1) = .ok (.iadd, 1)) (d4 : decode code (pc + 1 + 1 + 1 + 1) = .ok (.iaload, 1))
    (kk : W p l e room_1 s m #[Value.ref b] below meth c H locs cells slots Q (F0 m (pc + 1 + 1 + 1 + 1 + 1) ls (.int (xs (i + j)) :: rest))) : W p l e room_1 s m #[Value.ref b] below meth c H locs cells slots Q (F0 m pc ls rest) := by
  refine lv_aload_n hx hb d0 rfl (lv_at hl 0 h0) ?_
  refine lv_iload_n hx hb d1 rfl (lv_at hl 3 h3) ?_
  refine lv_iconst (v := nI j) hx hb d2 hv ?_
  refine lv_iadd hx hb d3 ?_
  refine topi_eq (nI_add i j) ?_
  refine va_sld hx hb hX hbl (Nat.not_le.mpr hbl) hS (vp_in_nI (n := i + j) (by omega) (by omega)) d4 ?_
  rw [nI_clN (by omega)]
  exact kk

theorem la_b {pc j : Nat} {n : Int} (hx : p.tables.exec = Jvm.exec) (hb : c.code = code) (hX : va_X b L xs s s.heap) (hbl : b < s.heap.size) (hS : va_S (fun q => s.heap.size ≤ q) s.heap H locs) (hi : i + 9 ≤ L ∧ L ≤ 4608) {lv : List (Nat × Value)} (hl : lv_has ls 4 lv) (h0 : lv[0]? = some (0, .ref b)) (h3 : lv[3]? = some (3, .int (nI i))) (hj : j < 9) (hv : (Int8.ofInt n).toInt32 = nI j) (d0 : decode code pc = .ok (.aload_n 0, 1)) (d1 : decode code (pc + 1) = .ok (.iload_n 3, 1)) (d2 : decode code (pc + 1 + 1) = .ok (.bipush n, 2)) (d3 : decode code (pc + 1 + 1 + 2) = .ok (.iadd, 1)) (d4 : decode code (pc + 1 + 1 + 2 + 1) = .ok (.iaload, 1))
    (kk : W p l e room_1 s m #[Value.ref b] below meth c H locs cells slots Q (F0 m (pc + 1 + 1 + 2 + 1 + 1) ls (.int (xs (i + j)) :: rest))) : W p l e room_1 s m #[Value.ref b] below meth c H locs cells slots Q (F0 m pc ls rest) := by
  refine lv_aload_n hx hb d0 rfl (lv_at hl 0 h0) ?_
  refine lv_iload_n hx hb d1 rfl (lv_at hl 3 h3) ?_
  refine lv_bipush (v := nI j) hx hb d2 hv ?_
  refine lv_iadd hx hb d3 ?_
  refine topi_eq (nI_add i j) ?_
  refine va_sld hx hb hX hbl (Nat.not_le.mpr hbl) hS (vp_in_nI (n := i + j) (by omega) (by omega)) d4 ?_
  rw [nI_clN (by omega)]
  exact kk

set_option maxHeartbeats 1000000 in
set_option maxRecDepth 100000 in
theorem op_feed  (hC : CallFix p m c code 4 s #[Value.ref b] GW R_La) (hK : KE D cT s) (hX : va_X b L xs s s.heap) (hbl : b < s.heap.size) (hZ : SE adK adV s.heap.size s) (hAd : AdOk ad) (hi : i + 9 ≤ L ∧ L ≤ 4608) (hcc : cells + 111 ≤ 600000 ∧ slots + 884 ≤ 7302250) (hJ : NM D (fun q => s.heap.size ≤ q) (cw cT X I a ++ mw cT ad Im Jm am gz) s.heap H locs) (hLI : LI X I a Im am) (hl : lv_has ls 4 [(0, .ref b), (1, .ref (X.1 0)), (2, .ref (ad 46)), (3, .int (nI i))])
    (kk : ∀ (X' : CX) (I' : Nat → Int32) (a' : Nat → Nat → Int32) (Im' : Nat → Int32) (Jm' : Nat → Int64) (am' : Nat → Nat → Int32) (gz' : Nat → Nat → Int64) (H' : Heap) (locs' : List Loc), NM D (fun q => s.heap.size ≤ q) (cw cT X' I' a' ++ mw cT ad Im' Jm' am' gz') s.heap H' locs' → LI X' I' a' Im' am' → X'.1 0 = X.1 0 → W p l e room_1 s m #[Value.ref b] below meth c H' locs' (cells + 111) (slots + 884) Q (F0 m 1048 ls [])) : W p l e room_1 s m #[Value.ref b] below meth c H locs cells slots Q (F0 m 136 ls []) := by
  have hx := hC.1
  have hb := hC.2.1
  obtain ⟨nb, T, tl, tb, ft, la, szz, ce, hCI, hRI⟩ := hLI
  have hn8 := hCI.1.2.2.1
  refine lv_aload_n hx hb d_law_136 rfl (lv_at hl 1 rfl) ?_
  refine la_c (j := 1) hx hb hX hbl hJ.2.2 hi hl rfl rfl (by decide) (by decide) d_law_137 d_law_138 d_law_139 d_law_140 d_law_141 ?_
  refine lv_i2l hx hb d_law_142 rfl ?_
  refine lv_bipush (v := 32) hx hb d_law_143 (by decide) ?_
  refine lv_lshl hx hb d_law_145 rfl ?_
  refine la_c (j := 2) hx hb hX hbl hJ.2.2 hi hl rfl rfl (by decide) (by decide) d_law_146 d_law_147 d_law_148 d_law_149 d_law_150 ?_
  refine lv_i2l hx hb d_law_151 rfl ?_
  refine lv_ldc2 (v := 4294967295) hx hb hC.2.2.2.1 (hC.2.2.2.2 _ wx_La_13) d_law_152 ?_
  refine lv_land hx hb d_law_155 ?_
  refine lv_lor hx hb d_law_156 ?_
  have hm := c_So_feed l D cT X I a (fdv (xs (i + 1)) (xs (i + 2))) tl hCI.2.2.1.1 hCI.2.2.1.2.1
  refine jw_cm (np := 1) hC hK hJ hm rfl ⟨wl_La_15, wi_So_feed, ws_So_feed, wc_So_feed, wn_So⟩ ⟨by decide, by decide, by decide +kernel⟩ ⟨Nat.le_of_ble_eq_true rfl, Nat.le_of_ble_eq_true rfl⟩ hl.1 rfl (rest := []) rfl (Nat.le_of_ble_eq_true rfl) ⟨by show cells ≤ 600000; omega, by show slots ≤ 7302250; omega⟩ d_law_157 (fun r1 I1 a1 H locs hp1 hJ => ?_)
  refine lv_aload_n hx hb d_law_160 rfl (lv_at hl 2 rfl) ?_
  refine la_c (j := 1) hx hb hX hbl hJ.2.2 hi hl rfl rfl (by decide) (by decide) d_law_161 d_law_162 d_law_163 d_law_164 d_law_165 ?_
  refine lv_i2l hx hb d_law_166 rfl ?_
  refine lv_bipush (v := 32) hx hb d_law_167 (by decide) ?_
  refine lv_lshl hx hb d_law_169 rfl ?_
  refine la_c (j := 2) hx hb hX hbl hJ.2.2 hi hl rfl rfl (by decide) (by decide) d_law_170 d_law_171 d_law_172 d_law_173 d_law_174 ?_
  refine lv_i2l hx hb d_law_175 rfl ?_
  refine lv_ldc2 (v := 4294967295) hx hb hC.2.2.2.1 (hC.2.2.2.2 _ wx_La_13) d_law_176 ?_
  refine lv_land hx hb d_law_179 ?_
  refine lv_lor hx hb d_law_180 ?_
  have hm2 := c_Mo_feed l D cT ad Im Jm am gz (fdv (xs (i + 1)) (xs (i + 2))) tl hRI.2.2.1.1 hRI.2.2.1.2.1
  refine jw_mm (np := 1) hC hK hJ hAd hm2 rfl ⟨wl_La_19, wi_Mo_feed, ws_Mo_feed, wc_Mo_feed, wn_Mo⟩ ⟨by decide, by decide, by decide +kernel⟩ ⟨Nat.le_of_ble_eq_true rfl, Nat.le_of_ble_eq_true rfl⟩ hl.1 rfl (rest := [.int r1]) rfl (Nat.le_of_ble_eq_true rfl) ⟨by show _ ≤ 600000; omega, by show _ ≤ 7302250; omega⟩ d_law_181 (fun r2 I2 J2 a2 g2 H locs hp2 hJ => ?_)
  obtain ⟨he, hLI⟩ := e_feed hCI hRI hp1 hp2
  refine lv_icmp_eq (tgt := 1048) hx hb d_law_184 (by decide) (fun _ => ?_) (fun z => absurd he z)
  refine W.widen (k := cells + 111) (n := slots + 884) (by omega) (by omega) ?_
  exact kk X I1 a1 I2 J2 a2 g2 _ _ hJ hLI rfl

set_option maxHeartbeats 1000000 in
set_option maxRecDepth 100000 in
theorem op_end  (hC : CallFix p m c code 4 s #[Value.ref b] GW R_La) (hK : KE D cT s) (hX : va_X b L xs s s.heap) (hbl : b < s.heap.size) (hZ : SE adK adV s.heap.size s) (hAd : AdOk ad) (hi : i + 9 ≤ L ∧ L ≤ 4608) (hcc : cells + 111 ≤ 600000 ∧ slots + 884 ≤ 7302250) (hJ : NM D (fun q => s.heap.size ≤ q) (cw cT X I a ++ mw cT ad Im Jm am gz) s.heap H locs) (hLI : LI X I a Im am) (hl : lv_has ls 4 [(0, .ref b), (1, .ref (X.1 0)), (2, .ref (ad 46)), (3, .int (nI i))])
    (kk : ∀ (X' : CX) (I' : Nat → Int32) (a' : Nat → Nat → Int32) (Im' : Nat → Int32) (Jm' : Nat → Int64) (am' : Nat → Nat → Int32) (gz' : Nat → Nat → Int64) (H' : Heap) (locs' : List Loc), NM D (fun q => s.heap.size ≤ q) (cw cT X' I' a' ++ mw cT ad Im' Jm' am' gz') s.heap H' locs' → LI X' I' a' Im' am' → X'.1 0 = X.1 0 → W p l e room_1 s m #[Value.ref b] below meth c H' locs' (cells + 111) (slots + 884) Q (F0 m 1048 ls [])) : W p l e room_1 s m #[Value.ref b] below meth c H locs cells slots Q (F0 m 189 ls []) := by
  have hx := hC.1
  have hb := hC.2.1
  obtain ⟨nb, T, tl, tb, ft, la, szz, ce, hCI, hRI⟩ := hLI
  have hn8 := hCI.1.2.2.1
  refine lv_aload_n hx hb d_law_189 rfl (lv_at hl 1 rfl) ?_
  refine la_c (j := 1) hx hb hX hbl hJ.2.2 hi hl rfl rfl (by decide) (by decide) d_law_190 d_law_191 d_law_192 d_law_193 d_law_194 ?_
  have hm := c_So_end l D cT X I a (xs (i + 1))
  refine jw_cm (np := 1) hC hK hJ hm rfl ⟨wl_La_20, wi_So_end, ws_So_end, wc_So_end, wn_So⟩ ⟨by decide, by decide, by decide +kernel⟩ ⟨Nat.le_of_ble_eq_true rfl, Nat.le_of_ble_eq_true rfl⟩ hl.1 rfl (rest := []) rfl (Nat.le_of_ble_eq_true rfl) ⟨by show cells ≤ 600000; omega, by show slots ≤ 7302250; omega⟩ d_law_195 (fun r1 I1 a1 H locs hp1 hJ => ?_)
  refine lv_aload_n hx hb d_law_198 rfl (lv_at hl 2 rfl) ?_
  refine la_c (j := 1) hx hb hX hbl hJ.2.2 hi hl rfl rfl (by decide) (by decide) d_law_199 d_law_200 d_law_201 d_law_202 d_law_203 ?_
  have hm2 := c_Mo_end l D cT ad Im Jm am gz (xs (i + 1))
  refine jw_mm (np := 1) hC hK hJ hAd hm2 rfl ⟨wl_La_24, wi_Mo_end, ws_Mo_end, wc_Mo_end, wn_Mo⟩ ⟨by decide, by decide, by decide +kernel⟩ ⟨Nat.le_of_ble_eq_true rfl, Nat.le_of_ble_eq_true rfl⟩ hl.1 rfl (rest := [.int r1]) rfl (Nat.le_of_ble_eq_true rfl) ⟨by show _ ≤ 600000; omega, by show _ ≤ 7302250; omega⟩ d_law_204 (fun r2 I2 J2 a2 g2 H locs hp2 hJ => ?_)
  obtain ⟨he, hLI⟩ := e_end hCI hRI hp1 hp2
  refine lv_icmp_eq (tgt := 1048) hx hb d_law_207 (by decide) (fun _ => ?_) (fun z => absurd he z)
  refine W.widen (k := cells + 111) (n := slots + 884) (by omega) (by omega) ?_
  exact kk X I1 a1 I2 J2 a2 g2 _ _ hJ hLI rfl

set_option maxHeartbeats 1000000 in
set_option maxRecDepth 100000 in
theorem op_body  (hC : CallFix p m c code 4 s #[Value.ref b] GW R_La) (hK : KE D cT s) (hX : va_X b L xs s s.heap) (hbl : b < s.heap.size) (hZ : SE adK adV s.heap.size s) (hAd : AdOk ad) (hi : i + 9 ≤ L ∧ L ≤ 4608) (hcc : cells + 111 ≤ 600000 ∧ slots + 884 ≤ 7302250) (hJ : NM D (fun q => s.heap.size ≤ q) (cw cT X I a ++ mw cT ad Im Jm am gz) s.heap H locs) (hLI : LI X I a Im am) (hl : lv_has ls 4 [(0, .ref b), (1, .ref (X.1 0)), (2, .ref (ad 46)), (3, .int (nI i))])
    (kk : ∀ (X' : CX) (I' : Nat → Int32) (a' : Nat → Nat → Int32) (Im' : Nat → Int32) (Jm' : Nat → Int64) (am' : Nat → Nat → Int32) (gz' : Nat → Nat → Int64) (H' : Heap) (locs' : List Loc), NM D (fun q => s.heap.size ≤ q) (cw cT X' I' a' ++ mw cT ad Im' Jm' am' gz') s.heap H' locs' → LI X' I' a' Im' am' → X'.1 0 = X.1 0 → W p l e room_1 s m #[Value.ref b] below meth c H' locs' (cells + 111) (slots + 884) Q (F0 m 1048 ls [])) : W p l e room_1 s m #[Value.ref b] below meth c H locs cells slots Q (F0 m 212 ls []) := by
  have hx := hC.1
  have hb := hC.2.1
  obtain ⟨nb, T, tl, tb, ft, la, szz, ce, hCI, hRI⟩ := hLI
  have hn8 := hCI.1.2.2.1
  refine lv_aload_n hx hb d_law_212 rfl (lv_at hl 1 rfl) ?_
  have hm := c_So_body l D cT X I a H.size adK adV s.heap.size nb T tl tb ft la szz ce (fun q hq => ca_in (jw_C hJ) q hq) hCI
  refine jw_cb (np := 0) hC hK hJ hZ (fun _ h => h) (fun _ h => h) hm rfl ⟨wl_La_25, wi_So_body, ws_So_body, wc_So_body, wn_So⟩ ⟨by decide, by decide, by decide +kernel⟩ ⟨Nat.le_of_ble_eq_true rfl, Nat.le_of_ble_eq_true rfl⟩ hl.1 rfl (rest := []) rfl (Nat.le_of_ble_eq_true rfl) ⟨by show _ ≤ 600000; omega, by show _ ≤ 7302250; omega⟩ d_law_213 (fun r1 X1 I1 a1 H locs hp1 hJ => ?_)
  refine lv_aload_n hx hb d_law_216 rfl (lv_at hl 2 rfl) ?_
  have hm2 := c_Mo_body l D cT ad Im Jm am gz nb tl tb hRI.2.2.1 hRI.1 hn8
  refine jw_mm (np := 0) hC hK hJ hAd hm2 rfl ⟨wl_La_29, wi_Mo_body, ws_Mo_body, wc_Mo_body, wn_Mo⟩ ⟨by decide, by decide, by decide +kernel⟩ ⟨Nat.le_of_ble_eq_true rfl, Nat.le_of_ble_eq_true rfl⟩ hl.1 rfl (rest := [.int r1]) rfl (Nat.le_of_ble_eq_true rfl) ⟨by show _ ≤ 600000; omega, by show _ ≤ 7302250; omega⟩ d_law_217 (fun r2 I2 J2 a2 g2 H locs hp2 hJ => ?_)
  obtain ⟨he, hLI⟩ := e_body hCI hRI hp1.2 hp2
  refine lv_icmp_eq (tgt := 1048) hx hb d_law_220 (by decide) (fun _ => ?_) (fun z => absurd he z)
  refine W.widen (k := cells + 111) (n := slots + 884) (by omega) (by omega) ?_
  exact kk X1 I1 a1 I2 J2 a2 g2 _ _ hJ hLI hp1.1

set_option maxHeartbeats 1000000 in
set_option maxRecDepth 100000 in
theorem op_fault  (hC : CallFix p m c code 4 s #[Value.ref b] GW R_La) (hK : KE D cT s) (hX : va_X b L xs s s.heap) (hbl : b < s.heap.size) (hZ : SE adK adV s.heap.size s) (hAd : AdOk ad) (hi : i + 9 ≤ L ∧ L ≤ 4608) (hcc : cells + 111 ≤ 600000 ∧ slots + 884 ≤ 7302250) (hJ : NM D (fun q => s.heap.size ≤ q) (cw cT X I a ++ mw cT ad Im Jm am gz) s.heap H locs) (hLI : LI X I a Im am) (hl : lv_has ls 4 [(0, .ref b), (1, .ref (X.1 0)), (2, .ref (ad 46)), (3, .int (nI i))])
    (kk : ∀ (X' : CX) (I' : Nat → Int32) (a' : Nat → Nat → Int32) (Im' : Nat → Int32) (Jm' : Nat → Int64) (am' : Nat → Nat → Int32) (gz' : Nat → Nat → Int64) (H' : Heap) (locs' : List Loc), NM D (fun q => s.heap.size ≤ q) (cw cT X' I' a' ++ mw cT ad Im' Jm' am' gz') s.heap H' locs' → LI X' I' a' Im' am' → X'.1 0 = X.1 0 → W p l e room_1 s m #[Value.ref b] below meth c H' locs' (cells + 111) (slots + 884) Q (F0 m 1048 ls [])) : W p l e room_1 s m #[Value.ref b] below meth c H locs cells slots Q (F0 m 225 ls []) := by
  have hx := hC.1
  have hb := hC.2.1
  obtain ⟨nb, T, tl, tb, ft, la, szz, ce, hCI, hRI⟩ := hLI
  have hn8 := hCI.1.2.2.1
  refine lv_aload_n hx hb d_law_225 rfl (lv_at hl 1 rfl) ?_
  have hm := c_So_fault l D cT X I a
  refine jw_rd (np := 0) hC hK hJ hm rfl ⟨wl_La_30, wi_So_fault, ws_So_fault, wc_So_fault, wn_So⟩ ⟨by decide, by decide, by decide +kernel⟩ ⟨Nat.le_of_ble_eq_true rfl, Nat.le_of_ble_eq_true rfl⟩ hl.1 rfl (rest := []) rfl (Nat.le_of_ble_eq_true rfl) ⟨by show cells ≤ 600000; omega, by show slots ≤ 7302250; omega⟩ d_law_226 (fun r1 hp1 => ?_)
  refine lv_aload_n hx hb d_law_229 rfl (lv_at hl 2 rfl) ?_
  have hm2 := c_Mo_fault l D cT ad Im Jm am gz
  refine jw_mr (np := 0) hC hK hJ hm2 rfl ⟨wl_La_33, wi_Mo_fault, ws_Mo_fault, wc_Mo_fault, wn_Mo⟩ ⟨by decide, by decide, by decide +kernel⟩ ⟨Nat.le_of_ble_eq_true rfl, Nat.le_of_ble_eq_true rfl⟩ hl.1 rfl (rest := [.int r1]) rfl (Nat.le_of_ble_eq_true rfl) ⟨by show _ ≤ 600000; omega, by show _ ≤ 7302250; omega⟩ d_law_230 (fun r2 hp2 => ?_)
  have he : r1 = r2 := hp1.trans (hCI.2.2.2.1.trans (hp2.trans hRI.2.2.2.1).symm)
  refine lv_icmp_eq (tgt := 1048) hx hb d_law_233 (by decide) (fun _ => ?_) (fun z => absurd he z)
  refine W.widen (k := cells + 111) (n := slots + 884) (by omega) (by omega) ?_
  exact kk X I a Im Jm am gz _ _ hJ ⟨nb, T, tl, tb, ft, la, szz, ce, hCI, hRI⟩ rfl

set_option maxHeartbeats 1000000 in
set_option maxRecDepth 100000 in
theorem op_drop  (hC : CallFix p m c code 4 s #[Value.ref b] GW R_La) (hK : KE D cT s) (hX : va_X b L xs s s.heap) (hbl : b < s.heap.size) (hZ : SE adK adV s.heap.size s) (hAd : AdOk ad) (hi : i + 9 ≤ L ∧ L ≤ 4608) (hcc : cells + 111 ≤ 600000 ∧ slots + 884 ≤ 7302250) (hJ : NM D (fun q => s.heap.size ≤ q) (cw cT X I a ++ mw cT ad Im Jm am gz) s.heap H locs) (hLI : LI X I a Im am) (hl : lv_has ls 4 [(0, .ref b), (1, .ref (X.1 0)), (2, .ref (ad 46)), (3, .int (nI i))])
    (kk : ∀ (X' : CX) (I' : Nat → Int32) (a' : Nat → Nat → Int32) (Im' : Nat → Int32) (Jm' : Nat → Int64) (am' : Nat → Nat → Int32) (gz' : Nat → Nat → Int64) (H' : Heap) (locs' : List Loc), NM D (fun q => s.heap.size ≤ q) (cw cT X' I' a' ++ mw cT ad Im' Jm' am' gz') s.heap H' locs' → LI X' I' a' Im' am' → X'.1 0 = X.1 0 → W p l e room_1 s m #[Value.ref b] below meth c H' locs' (cells + 111) (slots + 884) Q (F0 m 1048 ls [])) : W p l e room_1 s m #[Value.ref b] below meth c H locs cells slots Q (F0 m 238 ls []) := by
  have hx := hC.1
  have hb := hC.2.1
  obtain ⟨nb, T, tl, tb, ft, la, szz, ce, hCI, hRI⟩ := hLI
  have hn8 := hCI.1.2.2.1
  refine lv_aload_n hx hb d_law_238 rfl (lv_at hl 1 rfl) ?_
  have hm := c_So_drop l D cT X I a H.size adK adV s.heap.size nb T tl tb ft la szz ce hCI
  refine jw_cb (np := 0) hC hK hJ hZ (fun _ h => h) (fun _ h => h) hm rfl ⟨wl_La_34, wi_So_drop, ws_So_drop, wc_So_drop, wn_So⟩ ⟨by decide, by decide, by decide +kernel⟩ ⟨Nat.le_of_ble_eq_true rfl, Nat.le_of_ble_eq_true rfl⟩ hl.1 rfl (rest := []) rfl (Nat.le_of_ble_eq_true rfl) ⟨by show _ ≤ 600000; omega, by show _ ≤ 7302250; omega⟩ d_law_239 (fun r1 X1 I1 a1 H locs hp1 hJ => ?_)
  refine lv_aload_n hx hb d_law_242 rfl (lv_at hl 2 rfl) ?_
  have hm2 := c_Mo_drop l D cT ad Im Jm am gz
  refine jw_mm (np := 0) hC hK hJ hAd hm2 rfl ⟨wl_La_37, wi_Mo_drop, ws_Mo_drop, wc_Mo_drop, wn_Mo⟩ ⟨by decide, by decide, by decide +kernel⟩ ⟨Nat.le_of_ble_eq_true rfl, Nat.le_of_ble_eq_true rfl⟩ hl.1 rfl (rest := [.int r1]) rfl (Nat.le_of_ble_eq_true rfl) ⟨by show _ ≤ 600000; omega, by show _ ≤ 7302250; omega⟩ d_law_243 (fun r2 I2 J2 a2 g2 H locs hp2 hJ => ?_)
  obtain ⟨he, hLI⟩ := e_drop hCI hRI hp1.2 hp2
  refine lv_icmp_eq (tgt := 1048) hx hb d_law_246 (by decide) (fun _ => ?_) (fun z => absurd he z)
  refine W.widen (k := cells + 111) (n := slots + 884) (by omega) (by omega) ?_
  exact kk X1 I1 a1 I2 J2 a2 g2 _ _ hJ hLI hp1.1

set_option maxHeartbeats 1000000 in
set_option maxRecDepth 100000 in
theorem op_rule  (hC : CallFix p m c code 4 s #[Value.ref b] GW R_La) (hK : KE D cT s) (hX : va_X b L xs s s.heap) (hbl : b < s.heap.size) (hZ : SE adK adV s.heap.size s) (hAd : AdOk ad) (hi : i + 9 ≤ L ∧ L ≤ 4608) (hcc : cells + 111 ≤ 600000 ∧ slots + 884 ≤ 7302250) (hJ : NM D (fun q => s.heap.size ≤ q) (cw cT X I a ++ mw cT ad Im Jm am gz) s.heap H locs) (hLI : LI X I a Im am) (hl : lv_has ls 4 [(0, .ref b), (1, .ref (X.1 0)), (2, .ref (ad 46)), (3, .int (nI i))])
    (kk : ∀ (X' : CX) (I' : Nat → Int32) (a' : Nat → Nat → Int32) (Im' : Nat → Int32) (Jm' : Nat → Int64) (am' : Nat → Nat → Int32) (gz' : Nat → Nat → Int64) (H' : Heap) (locs' : List Loc), NM D (fun q => s.heap.size ≤ q) (cw cT X' I' a' ++ mw cT ad Im' Jm' am' gz') s.heap H' locs' → LI X' I' a' Im' am' → X'.1 0 = X.1 0 → W p l e room_1 s m #[Value.ref b] below meth c H' locs' (cells + 111) (slots + 884) Q (F0 m 1048 ls [])) : W p l e room_1 s m #[Value.ref b] below meth c H locs cells slots Q (F0 m 251 ls []) := by
  have hx := hC.1
  have hb := hC.2.1
  obtain ⟨nb, T, tl, tb, ft, la, szz, ce, hCI, hRI⟩ := hLI
  have hn8 := hCI.1.2.2.1
  refine lv_aload_n hx hb d_law_251 rfl (lv_at hl 1 rfl) ?_
  refine la_c (j := 1) hx hb hX hbl hJ.2.2 hi hl rfl rfl (by decide) (by decide) d_law_252 d_law_253 d_law_254 d_law_255 d_law_256 ?_
  refine la_c (j := 2) hx hb hX hbl hJ.2.2 hi hl rfl rfl (by decide) (by decide) d_law_257 d_law_258 d_law_259 d_law_260 d_law_261 ?_
  refine la_c (j := 3) hx hb hX hbl hJ.2.2 hi hl rfl rfl (by decide) (by decide) d_law_262 d_law_263 d_law_264 d_law_265 d_law_266 ?_
  refine la_c (j := 4) hx hb hX hbl hJ.2.2 hi hl rfl rfl (by decide) (by decide) d_law_267 d_law_268 d_law_269 d_law_270 d_law_271 ?_
  have hm := k_So_rule l D cT X I a (xs (i + 1)) (xs (i + 2)) (xs (i + 3)) (xs (i + 4)) nb T tl tb ft la szz ce hCI
  refine jw_rd (np := 4) hC hK hJ hm rfl ⟨wl_La_38, wi_So_rule, ws_So_rule, wc_So_rule, wn_So⟩ ⟨by decide, by decide, by decide +kernel⟩ ⟨Nat.le_of_ble_eq_true rfl, Nat.le_of_ble_eq_true rfl⟩ hl.1 rfl (rest := []) rfl (Nat.le_of_ble_eq_true rfl) ⟨by show cells ≤ 600000; omega, by show slots ≤ 7302250; omega⟩ d_law_272 (fun r1 hp1 => ?_)
  refine lv_aload_n hx hb d_law_275 rfl (lv_at hl 2 rfl) ?_
  refine la_c (j := 1) hx hb hX hbl hJ.2.2 hi hl rfl rfl (by decide) (by decide) d_law_276 d_law_277 d_law_278 d_law_279 d_law_280 ?_
  refine la_c (j := 2) hx hb hX hbl hJ.2.2 hi hl rfl rfl (by decide) (by decide) d_law_281 d_law_282 d_law_283 d_law_284 d_law_285 ?_
  refine la_c (j := 3) hx hb hX hbl hJ.2.2 hi hl rfl rfl (by decide) (by decide) d_law_286 d_law_287 d_law_288 d_law_289 d_law_290 ?_
  refine la_c (j := 4) hx hb hX hbl hJ.2.2 hi hl rfl rfl (by decide) (by decide) d_law_291 d_law_292 d_law_293 d_law_294 d_law_295 ?_
  have hm2 := c_Mo_rule l D cT ad Im Jm am gz (xs (i + 1)) (xs (i + 2)) (xs (i + 3)) (xs (i + 4)) nb T hRI.1 hn8 hRI.2.1
  refine jw_mm (np := 4) hC hK hJ hAd hm2 rfl ⟨wl_La_42, wi_Mo_rule, ws_Mo_rule, wc_Mo_rule, wn_Mo⟩ ⟨by decide, by decide, by decide +kernel⟩ ⟨Nat.le_of_ble_eq_true rfl, Nat.le_of_ble_eq_true rfl⟩ hl.1 rfl (rest := [.int r1]) rfl (Nat.le_of_ble_eq_true rfl) ⟨by show _ ≤ 600000; omega, by show _ ≤ 7302250; omega⟩ d_law_296 (fun r2 I2 J2 a2 g2 H locs hp2 hJ => ?_)
  have he : r1 = r2 := e_rule (P := (-1000 ≤ (xs (i + 2)).toInt ∧ (xs (i + 2)).toInt ≤ 1000) ∧ (-1000 ≤ (xs (i + 3)).toInt ∧ (xs (i + 3)).toInt ≤ 1000) ∧ (-1000 ≤ (xs (i + 4)).toInt ∧ (xs (i + 4)).toInt ≤ 1000)) (v := fun k => iI (vl (T k) (xs (i + 2)).toInt (xs (i + 3)).toInt (xs (i + 4)).toInt)) hp1.1 hp1.2 hp2.2.2
  refine lv_icmp_eq (tgt := 1048) hx hb d_law_299 (by decide) (fun _ => ?_) (fun z => absurd he z)
  refine W.widen (k := cells + 111) (n := slots + 884) (by omega) (by omega) ?_
  exact kk X I a I2 J2 a2 g2 _ _ hJ ⟨nb, T, tl, tb, ft, la, szz, ce, hCI, RI_of hRI (congrFun hp2.1 0) (congrFun hp2.1 6) (congrFun hp2.1 7) (fun k _ => congrFun hp2.2.1 k)⟩ rfl

set_option maxHeartbeats 1000000 in
set_option maxRecDepth 100000 in
theorem op_span0 (hz : xs (i + 8) = 0) (hC : CallFix p m c code 4 s #[Value.ref b] GW R_La) (hK : KE D cT s) (hX : va_X b L xs s s.heap) (hbl : b < s.heap.size) (hZ : SE adK adV s.heap.size s) (hAd : AdOk ad) (hi : i + 9 ≤ L ∧ L ≤ 4608) (hcc : cells + 111 ≤ 600000 ∧ slots + 884 ≤ 7302250) (hJ : NM D (fun q => s.heap.size ≤ q) (cw cT X I a ++ mw cT ad Im Jm am gz) s.heap H locs) (hLI : LI X I a Im am) (hl : lv_has ls 4 [(0, .ref b), (1, .ref (X.1 0)), (2, .ref (ad 46)), (3, .int (nI i))])
    (kk : ∀ (X' : CX) (I' : Nat → Int32) (a' : Nat → Nat → Int32) (Im' : Nat → Int32) (Jm' : Nat → Int64) (am' : Nat → Nat → Int32) (gz' : Nat → Nat → Int64) (H' : Heap) (locs' : List Loc), NM D (fun q => s.heap.size ≤ q) (cw cT X' I' a' ++ mw cT ad Im' Jm' am' gz') s.heap H' locs' → LI X' I' a' Im' am' → X'.1 0 = X.1 0 → W p l e room_1 s m #[Value.ref b] below meth c H' locs' (cells + 111) (slots + 884) Q (F0 m 1048 ls [])) : W p l e room_1 s m #[Value.ref b] below meth c H locs cells slots Q (F0 m 304 ls []) := by
  have hx := hC.1
  have hb := hC.2.1
  obtain ⟨nb, T, tl, tb, ft, la, szz, ce, hCI, hRI⟩ := hLI
  have hn8 := hCI.1.2.2.1
  refine lv_aload_n hx hb d_law_304 rfl (lv_at hl 1 rfl) ?_
  refine la_c (j := 1) hx hb hX hbl hJ.2.2 hi hl rfl rfl (by decide) (by decide) d_law_305 d_law_306 d_law_307 d_law_308 d_law_309 ?_
  refine la_c (j := 2) hx hb hX hbl hJ.2.2 hi hl rfl rfl (by decide) (by decide) d_law_310 d_law_311 d_law_312 d_law_313 d_law_314 ?_
  refine la_c (j := 3) hx hb hX hbl hJ.2.2 hi hl rfl rfl (by decide) (by decide) d_law_315 d_law_316 d_law_317 d_law_318 d_law_319 ?_
  refine la_c (j := 4) hx hb hX hbl hJ.2.2 hi hl rfl rfl (by decide) (by decide) d_law_320 d_law_321 d_law_322 d_law_323 d_law_324 ?_
  refine la_c (j := 5) hx hb hX hbl hJ.2.2 hi hl rfl rfl (by decide) (by decide) d_law_325 d_law_326 d_law_327 d_law_328 d_law_329 ?_
  refine la_b (j := 6) hx hb hX hbl hJ.2.2 hi hl rfl rfl (by decide) (by decide) d_law_330 d_law_331 d_law_332 d_law_334 d_law_335 ?_
  refine la_b (j := 7) hx hb hX hbl hJ.2.2 hi hl rfl rfl (by decide) (by decide) d_law_336 d_law_337 d_law_338 d_law_340 d_law_341 ?_
  refine la_b (j := 8) hx hb hX hbl hJ.2.2 hi hl rfl rfl (by decide) (by decide) d_law_342 d_law_343 d_law_344 d_law_346 d_law_347 ?_
  refine lv_if_eq (tgt := 355) hx hb d_law_348 (by decide) (fun _ => ?_) (fun z => absurd hz z)
  refine lv_iconst (v := 0) hx hb d_law_355 (by decide) ?_
  have hm := k_So_span l D cT X I a (xs (i + 1)) (xs (i + 2)) (xs (i + 3)) (xs (i + 4)) (xs (i + 5)) (xs (i + 6)) (xs (i + 7)) 0 nb T tl tb ft la szz ce hCI (Or.inl rfl)
  refine jw_rd (np := 8) hC hK hJ hm rfl ⟨wl_La_43, wi_So_span, ws_So_span, wc_So_span, wn_So⟩ ⟨by decide, by decide, by decide +kernel⟩ ⟨Nat.le_of_ble_eq_true rfl, Nat.le_of_ble_eq_true rfl⟩ hl.1 rfl (rest := []) rfl (Nat.le_of_ble_eq_true rfl) ⟨by show cells ≤ 600000; omega, by show slots ≤ 7302250; omega⟩ d_law_356 (fun r1 hp1 => ?_)
  refine lv_aload_n hx hb d_law_359 rfl (lv_at hl 2 rfl) ?_
  refine la_c (j := 1) hx hb hX hbl hJ.2.2 hi hl rfl rfl (by decide) (by decide) d_law_360 d_law_361 d_law_362 d_law_363 d_law_364 ?_
  refine la_c (j := 2) hx hb hX hbl hJ.2.2 hi hl rfl rfl (by decide) (by decide) d_law_365 d_law_366 d_law_367 d_law_368 d_law_369 ?_
  refine la_c (j := 3) hx hb hX hbl hJ.2.2 hi hl rfl rfl (by decide) (by decide) d_law_370 d_law_371 d_law_372 d_law_373 d_law_374 ?_
  refine la_c (j := 4) hx hb hX hbl hJ.2.2 hi hl rfl rfl (by decide) (by decide) d_law_375 d_law_376 d_law_377 d_law_378 d_law_379 ?_
  refine la_c (j := 5) hx hb hX hbl hJ.2.2 hi hl rfl rfl (by decide) (by decide) d_law_380 d_law_381 d_law_382 d_law_383 d_law_384 ?_
  refine la_b (j := 6) hx hb hX hbl hJ.2.2 hi hl rfl rfl (by decide) (by decide) d_law_385 d_law_386 d_law_387 d_law_389 d_law_390 ?_
  refine la_b (j := 7) hx hb hX hbl hJ.2.2 hi hl rfl rfl (by decide) (by decide) d_law_391 d_law_392 d_law_393 d_law_395 d_law_396 ?_
  refine la_b (j := 8) hx hb hX hbl hJ.2.2 hi hl rfl rfl (by decide) (by decide) d_law_397 d_law_398 d_law_399 d_law_401 d_law_402 ?_
  refine lv_if_eq (tgt := 410) hx hb d_law_403 (by decide) (fun _ => ?_) (fun z => absurd hz z)
  refine lv_iconst (v := 0) hx hb d_law_410 (by decide) ?_
  have hm2 := c_Mo_span l D cT ad Im Jm am gz (xs (i + 1)) (xs (i + 2)) (xs (i + 3)) (xs (i + 4)) (xs (i + 5)) (xs (i + 6)) (xs (i + 7)) 0 nb T hRI.1 hn8 hRI.2.1
  refine jw_mm (np := 8) hC hK hJ hAd hm2 rfl ⟨wl_La_47, wi_Mo_span, ws_Mo_span, wc_Mo_span, wn_Mo⟩ ⟨by decide, by decide, by decide +kernel⟩ ⟨Nat.le_of_ble_eq_true rfl, Nat.le_of_ble_eq_true rfl⟩ hl.1 rfl (rest := [.int r1]) rfl (Nat.le_of_ble_eq_true rfl) ⟨by show _ ≤ 600000; omega, by show _ ≤ 7302250; omega⟩ d_law_411 (fun r2 I2 J2 a2 g2 H locs hp2 hJ => ?_)
  have he : r1 = r2 := e_rule (P := (-7 ≤ (xs (i + 2)).toInt ∧ (xs (i + 2)).toInt ≤ 7 ∧ -7 ≤ (xs (i + 3)).toInt ∧ (xs (i + 3)).toInt ≤ 7 ∧ -7 ≤ (xs (i + 4)).toInt ∧ (xs (i + 4)).toInt ≤ 7) ∧ (-7 ≤ (xs (i + 5)).toInt ∧ (xs (i + 5)).toInt ≤ 7 ∧ -7 ≤ (xs (i + 6)).toInt ∧ (xs (i + 6)).toInt ≤ 7 ∧ -7 ≤ (xs (i + 7)).toInt ∧ (xs (i + 7)).toInt ≤ 7) ∧ (xs (i + 2)).toInt ≤ (xs (i + 5)).toInt ∧ (xs (i + 3)).toInt ≤ (xs (i + 6)).toInt ∧ (xs (i + 4)).toInt ≤ (xs (i + 7)).toInt) (v := fun k => iI (lh 0 (spT (T k) (bx6 (xs (i + 2)).toInt (xs (i + 5)).toInt (xs (i + 3)).toInt (xs (i + 6)).toInt (xs (i + 4)).toInt (xs (i + 7)).toInt)))) hp1.1 hp1.2 hp2.2.2
  refine lv_icmp_eq (tgt := 1048) hx hb d_law_414 (by decide) (fun _ => ?_) (fun z => absurd he z)
  refine W.widen (k := cells + 111) (n := slots + 884) (by omega) (by omega) ?_
  exact kk X I a I2 J2 a2 g2 _ _ hJ ⟨nb, T, tl, tb, ft, la, szz, ce, hCI, RI_of hRI (congrFun hp2.1 0) (congrFun hp2.1 6) (congrFun hp2.1 7) (fun k _ => congrFun hp2.2.1 k)⟩ rfl

set_option maxHeartbeats 1000000 in
set_option maxRecDepth 100000 in
theorem op_span1 (hz : ¬ xs (i + 8) = 0) (hC : CallFix p m c code 4 s #[Value.ref b] GW R_La) (hK : KE D cT s) (hX : va_X b L xs s s.heap) (hbl : b < s.heap.size) (hZ : SE adK adV s.heap.size s) (hAd : AdOk ad) (hi : i + 9 ≤ L ∧ L ≤ 4608) (hcc : cells + 111 ≤ 600000 ∧ slots + 884 ≤ 7302250) (hJ : NM D (fun q => s.heap.size ≤ q) (cw cT X I a ++ mw cT ad Im Jm am gz) s.heap H locs) (hLI : LI X I a Im am) (hl : lv_has ls 4 [(0, .ref b), (1, .ref (X.1 0)), (2, .ref (ad 46)), (3, .int (nI i))])
    (kk : ∀ (X' : CX) (I' : Nat → Int32) (a' : Nat → Nat → Int32) (Im' : Nat → Int32) (Jm' : Nat → Int64) (am' : Nat → Nat → Int32) (gz' : Nat → Nat → Int64) (H' : Heap) (locs' : List Loc), NM D (fun q => s.heap.size ≤ q) (cw cT X' I' a' ++ mw cT ad Im' Jm' am' gz') s.heap H' locs' → LI X' I' a' Im' am' → X'.1 0 = X.1 0 → W p l e room_1 s m #[Value.ref b] below meth c H' locs' (cells + 111) (slots + 884) Q (F0 m 1048 ls [])) : W p l e room_1 s m #[Value.ref b] below meth c H locs cells slots Q (F0 m 304 ls []) := by
  have hx := hC.1
  have hb := hC.2.1
  obtain ⟨nb, T, tl, tb, ft, la, szz, ce, hCI, hRI⟩ := hLI
  have hn8 := hCI.1.2.2.1
  refine lv_aload_n hx hb d_law_304 rfl (lv_at hl 1 rfl) ?_
  refine la_c (j := 1) hx hb hX hbl hJ.2.2 hi hl rfl rfl (by decide) (by decide) d_law_305 d_law_306 d_law_307 d_law_308 d_law_309 ?_
  refine la_c (j := 2) hx hb hX hbl hJ.2.2 hi hl rfl rfl (by decide) (by decide) d_law_310 d_law_311 d_law_312 d_law_313 d_law_314 ?_
  refine la_c (j := 3) hx hb hX hbl hJ.2.2 hi hl rfl rfl (by decide) (by decide) d_law_315 d_law_316 d_law_317 d_law_318 d_law_319 ?_
  refine la_c (j := 4) hx hb hX hbl hJ.2.2 hi hl rfl rfl (by decide) (by decide) d_law_320 d_law_321 d_law_322 d_law_323 d_law_324 ?_
  refine la_c (j := 5) hx hb hX hbl hJ.2.2 hi hl rfl rfl (by decide) (by decide) d_law_325 d_law_326 d_law_327 d_law_328 d_law_329 ?_
  refine la_b (j := 6) hx hb hX hbl hJ.2.2 hi hl rfl rfl (by decide) (by decide) d_law_330 d_law_331 d_law_332 d_law_334 d_law_335 ?_
  refine la_b (j := 7) hx hb hX hbl hJ.2.2 hi hl rfl rfl (by decide) (by decide) d_law_336 d_law_337 d_law_338 d_law_340 d_law_341 ?_
  refine la_b (j := 8) hx hb hX hbl hJ.2.2 hi hl rfl rfl (by decide) (by decide) d_law_342 d_law_343 d_law_344 d_law_346 d_law_347 ?_
  refine lv_if_eq (tgt := 355) hx hb d_law_348 (by decide) (fun z => absurd z hz) (fun _ => ?_)
  refine lv_iconst (v := 1) hx hb d_law_351 (by decide) ?_
  refine lv_goto (tgt := 356) hx hb d_law_352 (by decide) ?_
  have hm := k_So_span l D cT X I a (xs (i + 1)) (xs (i + 2)) (xs (i + 3)) (xs (i + 4)) (xs (i + 5)) (xs (i + 6)) (xs (i + 7)) 1 nb T tl tb ft la szz ce hCI (Or.inr rfl)
  refine jw_rd (np := 8) hC hK hJ hm rfl ⟨wl_La_43, wi_So_span, ws_So_span, wc_So_span, wn_So⟩ ⟨by decide, by decide, by decide +kernel⟩ ⟨Nat.le_of_ble_eq_true rfl, Nat.le_of_ble_eq_true rfl⟩ hl.1 rfl (rest := []) rfl (Nat.le_of_ble_eq_true rfl) ⟨by show cells ≤ 600000; omega, by show slots ≤ 7302250; omega⟩ d_law_356 (fun r1 hp1 => ?_)
  refine lv_aload_n hx hb d_law_359 rfl (lv_at hl 2 rfl) ?_
  refine la_c (j := 1) hx hb hX hbl hJ.2.2 hi hl rfl rfl (by decide) (by decide) d_law_360 d_law_361 d_law_362 d_law_363 d_law_364 ?_
  refine la_c (j := 2) hx hb hX hbl hJ.2.2 hi hl rfl rfl (by decide) (by decide) d_law_365 d_law_366 d_law_367 d_law_368 d_law_369 ?_
  refine la_c (j := 3) hx hb hX hbl hJ.2.2 hi hl rfl rfl (by decide) (by decide) d_law_370 d_law_371 d_law_372 d_law_373 d_law_374 ?_
  refine la_c (j := 4) hx hb hX hbl hJ.2.2 hi hl rfl rfl (by decide) (by decide) d_law_375 d_law_376 d_law_377 d_law_378 d_law_379 ?_
  refine la_c (j := 5) hx hb hX hbl hJ.2.2 hi hl rfl rfl (by decide) (by decide) d_law_380 d_law_381 d_law_382 d_law_383 d_law_384 ?_
  refine la_b (j := 6) hx hb hX hbl hJ.2.2 hi hl rfl rfl (by decide) (by decide) d_law_385 d_law_386 d_law_387 d_law_389 d_law_390 ?_
  refine la_b (j := 7) hx hb hX hbl hJ.2.2 hi hl rfl rfl (by decide) (by decide) d_law_391 d_law_392 d_law_393 d_law_395 d_law_396 ?_
  refine la_b (j := 8) hx hb hX hbl hJ.2.2 hi hl rfl rfl (by decide) (by decide) d_law_397 d_law_398 d_law_399 d_law_401 d_law_402 ?_
  refine lv_if_eq (tgt := 410) hx hb d_law_403 (by decide) (fun z => absurd z hz) (fun _ => ?_)
  refine lv_iconst (v := 1) hx hb d_law_406 (by decide) ?_
  refine lv_goto (tgt := 411) hx hb d_law_407 (by decide) ?_
  have hm2 := c_Mo_span l D cT ad Im Jm am gz (xs (i + 1)) (xs (i + 2)) (xs (i + 3)) (xs (i + 4)) (xs (i + 5)) (xs (i + 6)) (xs (i + 7)) 1 nb T hRI.1 hn8 hRI.2.1
  refine jw_mm (np := 8) hC hK hJ hAd hm2 rfl ⟨wl_La_47, wi_Mo_span, ws_Mo_span, wc_Mo_span, wn_Mo⟩ ⟨by decide, by decide, by decide +kernel⟩ ⟨Nat.le_of_ble_eq_true rfl, Nat.le_of_ble_eq_true rfl⟩ hl.1 rfl (rest := [.int r1]) rfl (Nat.le_of_ble_eq_true rfl) ⟨by show _ ≤ 600000; omega, by show _ ≤ 7302250; omega⟩ d_law_411 (fun r2 I2 J2 a2 g2 H locs hp2 hJ => ?_)
  have he : r1 = r2 := e_rule (P := (-7 ≤ (xs (i + 2)).toInt ∧ (xs (i + 2)).toInt ≤ 7 ∧ -7 ≤ (xs (i + 3)).toInt ∧ (xs (i + 3)).toInt ≤ 7 ∧ -7 ≤ (xs (i + 4)).toInt ∧ (xs (i + 4)).toInt ≤ 7) ∧ (-7 ≤ (xs (i + 5)).toInt ∧ (xs (i + 5)).toInt ≤ 7 ∧ -7 ≤ (xs (i + 6)).toInt ∧ (xs (i + 6)).toInt ≤ 7 ∧ -7 ≤ (xs (i + 7)).toInt ∧ (xs (i + 7)).toInt ≤ 7) ∧ (xs (i + 2)).toInt ≤ (xs (i + 5)).toInt ∧ (xs (i + 3)).toInt ≤ (xs (i + 6)).toInt ∧ (xs (i + 4)).toInt ≤ (xs (i + 7)).toInt) (v := fun k => iI (lh 1 (spT (T k) (bx6 (xs (i + 2)).toInt (xs (i + 5)).toInt (xs (i + 3)).toInt (xs (i + 6)).toInt (xs (i + 4)).toInt (xs (i + 7)).toInt)))) hp1.1 hp1.2 hp2.2.2
  refine lv_icmp_eq (tgt := 1048) hx hb d_law_414 (by decide) (fun _ => ?_) (fun z => absurd he z)
  refine W.widen (k := cells + 111) (n := slots + 884) (by omega) (by omega) ?_
  exact kk X I a I2 J2 a2 g2 _ _ hJ ⟨nb, T, tl, tb, ft, la, szz, ce, hCI, RI_of hRI (congrFun hp2.1 0) (congrFun hp2.1 6) (congrFun hp2.1 7) (fun k _ => congrFun hp2.2.1 k)⟩ rfl

set_option maxHeartbeats 1000000 in
set_option maxRecDepth 100000 in
theorem op_parted  (hC : CallFix p m c code 4 s #[Value.ref b] GW R_La) (hK : KE D cT s) (hX : va_X b L xs s s.heap) (hbl : b < s.heap.size) (hZ : SE adK adV s.heap.size s) (hAd : AdOk ad) (hi : i + 9 ≤ L ∧ L ≤ 4608) (hcc : cells + 111 ≤ 600000 ∧ slots + 884 ≤ 7302250) (hJ : NM D (fun q => s.heap.size ≤ q) (cw cT X I a ++ mw cT ad Im Jm am gz) s.heap H locs) (hLI : LI X I a Im am) (hl : lv_has ls 4 [(0, .ref b), (1, .ref (X.1 0)), (2, .ref (ad 46)), (3, .int (nI i))])
    (kk : ∀ (X' : CX) (I' : Nat → Int32) (a' : Nat → Nat → Int32) (Im' : Nat → Int32) (Jm' : Nat → Int64) (am' : Nat → Nat → Int32) (gz' : Nat → Nat → Int64) (H' : Heap) (locs' : List Loc), NM D (fun q => s.heap.size ≤ q) (cw cT X' I' a' ++ mw cT ad Im' Jm' am' gz') s.heap H' locs' → LI X' I' a' Im' am' → X'.1 0 = X.1 0 → W p l e room_1 s m #[Value.ref b] below meth c H' locs' (cells + 111) (slots + 884) Q (F0 m 1048 ls [])) : W p l e room_1 s m #[Value.ref b] below meth c H locs cells slots Q (F0 m 419 ls []) := by
  have hx := hC.1
  have hb := hC.2.1
  obtain ⟨nb, T, tl, tb, ft, la, szz, ce, hCI, hRI⟩ := hLI
  have hn8 := hCI.1.2.2.1
  refine lv_aload_n hx hb d_law_419 rfl (lv_at hl 1 rfl) ?_
  refine la_c (j := 1) hx hb hX hbl hJ.2.2 hi hl rfl rfl (by decide) (by decide) d_law_420 d_law_421 d_law_422 d_law_423 d_law_424 ?_
  refine la_c (j := 2) hx hb hX hbl hJ.2.2 hi hl rfl rfl (by decide) (by decide) d_law_425 d_law_426 d_law_427 d_law_428 d_law_429 ?_
  have hm := k_So_parted l D cT X I a (xs (i + 1)) (xs (i + 2)) nb T tl tb ft la szz ce hCI
  refine jw_cm (np := 2) hC hK hJ hm rfl ⟨wl_La_48, wi_So_parted, ws_So_parted, wc_So_parted, wn_So⟩ ⟨by decide, by decide, by decide +kernel⟩ ⟨Nat.le_of_ble_eq_true rfl, Nat.le_of_ble_eq_true rfl⟩ hl.1 rfl (rest := []) rfl (Nat.le_of_ble_eq_true rfl) ⟨by show cells ≤ 600000; omega, by show slots ≤ 7302250; omega⟩ d_law_430 (fun r1 I1 a1 H locs hp1 hJ => ?_)
  refine lv_aload_n hx hb d_law_433 rfl (lv_at hl 2 rfl) ?_
  refine la_c (j := 1) hx hb hX hbl hJ.2.2 hi hl rfl rfl (by decide) (by decide) d_law_434 d_law_435 d_law_436 d_law_437 d_law_438 ?_
  refine la_c (j := 2) hx hb hX hbl hJ.2.2 hi hl rfl rfl (by decide) (by decide) d_law_439 d_law_440 d_law_441 d_law_442 d_law_443 ?_
  have hm2 := c_Mo_parted l D cT ad Im Jm am gz (xs (i + 1)) (xs (i + 2)) nb T hRI.1 hn8 hRI.2.1
  refine jw_mm (np := 2) hC hK hJ hAd hm2 rfl ⟨wl_La_52, wi_Mo_parted, ws_Mo_parted, wc_Mo_parted, wn_Mo⟩ ⟨by decide, by decide, by decide +kernel⟩ ⟨Nat.le_of_ble_eq_true rfl, Nat.le_of_ble_eq_true rfl⟩ hl.1 rfl (rest := [.int r1]) rfl (Nat.le_of_ble_eq_true rfl) ⟨by show _ ≤ 600000; omega, by show _ ≤ 7302250; omega⟩ d_law_444 (fun r2 I2 J2 a2 g2 H locs hp2 hJ => ?_)
  have he : r1 = r2 := e_parted (fun h => (hp1.1 h).1) hp1.2.1 hp2.2
  refine lv_icmp_eq (tgt := 1048) hx hb d_law_447 (by decide) (fun _ => ?_) (fun z => absurd he z)
  refine W.widen (k := cells + 111) (n := slots + 884) (by omega) (by omega) ?_
  exact kk X I1 a1 I2 J2 a2 g2 _ _ hJ ⟨nb, T, tl, tb, ft, la, szz, ce, hp1.2.2, RI_sp hRI hp2.1⟩ rfl

set_option maxHeartbeats 1000000 in
set_option maxRecDepth 100000 in
theorem op_volume  (hC : CallFix p m c code 4 s #[Value.ref b] GW R_La) (hK : KE D cT s) (hX : va_X b L xs s s.heap) (hbl : b < s.heap.size) (hZ : SE adK adV s.heap.size s) (hAd : AdOk ad) (hi : i + 9 ≤ L ∧ L ≤ 4608) (hcc : cells + 111 ≤ 600000 ∧ slots + 884 ≤ 7302250) (hJ : NM D (fun q => s.heap.size ≤ q) (cw cT X I a ++ mw cT ad Im Jm am gz) s.heap H locs) (hLI : LI X I a Im am) (hl : lv_has ls 4 [(0, .ref b), (1, .ref (X.1 0)), (2, .ref (ad 46)), (3, .int (nI i))])
    (kk : ∀ (X' : CX) (I' : Nat → Int32) (a' : Nat → Nat → Int32) (Im' : Nat → Int32) (Jm' : Nat → Int64) (am' : Nat → Nat → Int32) (gz' : Nat → Nat → Int64) (H' : Heap) (locs' : List Loc), NM D (fun q => s.heap.size ≤ q) (cw cT X' I' a' ++ mw cT ad Im' Jm' am' gz') s.heap H' locs' → LI X' I' a' Im' am' → X'.1 0 = X.1 0 → W p l e room_1 s m #[Value.ref b] below meth c H' locs' (cells + 111) (slots + 884) Q (F0 m 1048 ls [])) : W p l e room_1 s m #[Value.ref b] below meth c H locs cells slots Q (F0 m 452 ls []) := by
  have hx := hC.1
  have hb := hC.2.1
  obtain ⟨nb, T, tl, tb, ft, la, szz, ce, hCI, hRI⟩ := hLI
  have hn8 := hCI.1.2.2.1
  refine lv_aload_n hx hb d_law_452 rfl (lv_at hl 1 rfl) ?_
  refine la_c (j := 1) hx hb hX hbl hJ.2.2 hi hl rfl rfl (by decide) (by decide) d_law_453 d_law_454 d_law_455 d_law_456 d_law_457 ?_
  have hm := k_So_volume l D cT X I a (xs (i + 1)) nb T tl tb ft la szz ce hCI
  refine jw_cm (np := 1) hC hK hJ hm rfl ⟨wl_La_53, wi_So_volume, ws_So_volume, wc_So_volume, wn_So⟩ ⟨by decide, by decide, by decide +kernel⟩ ⟨Nat.le_of_ble_eq_true rfl, Nat.le_of_ble_eq_true rfl⟩ hl.1 rfl (rest := []) rfl (Nat.le_of_ble_eq_true rfl) ⟨by show cells ≤ 600000; omega, by show slots ≤ 7302250; omega⟩ d_law_458 (fun r1 I1 a1 H locs hp1 hJ => ?_)
  refine lv_aload_n hx hb d_law_461 rfl (lv_at hl 2 rfl) ?_
  refine la_c (j := 1) hx hb hX hbl hJ.2.2 hi hl rfl rfl (by decide) (by decide) d_law_462 d_law_463 d_law_464 d_law_465 d_law_466 ?_
  have hm2 := c_Mo_volume l D cT ad Im Jm am gz (xs (i + 1)) nb T hRI.1 hn8 hRI.2.1
  refine jw_mm (np := 1) hC hK hJ hAd hm2 rfl ⟨wl_La_56, wi_Mo_volume, ws_Mo_volume, wc_Mo_volume, wn_Mo⟩ ⟨by decide, by decide, by decide +kernel⟩ ⟨Nat.le_of_ble_eq_true rfl, Nat.le_of_ble_eq_true rfl⟩ hl.1 rfl (rest := [.int r1]) rfl (Nat.le_of_ble_eq_true rfl) ⟨by show _ ≤ 600000; omega, by show _ ≤ 7302250; omega⟩ d_law_467 (fun r2 I2 J2 a2 g2 H locs hp2 hJ => ?_)
  have he : r1 = r2 := e_volume hCI (fun h => (hp1.1 h).1) hp1.2.1 hp2.2
  refine lv_icmp_eq (tgt := 1048) hx hb d_law_470 (by decide) (fun _ => ?_) (fun z => absurd he z)
  refine W.widen (k := cells + 111) (n := slots + 884) (by omega) (by omega) ?_
  exact kk X I1 a1 I2 J2 a2 g2 _ _ hJ ⟨nb, T, tl, tb, ft, la, szz, ce, hp1.2.2, RI_sp hRI hp2.1⟩ rfl

set_option maxHeartbeats 1000000 in
set_option maxRecDepth 100000 in
theorem op_point  (hC : CallFix p m c code 4 s #[Value.ref b] GW R_La) (hK : KE D cT s) (hX : va_X b L xs s s.heap) (hbl : b < s.heap.size) (hZ : SE adK adV s.heap.size s) (hAd : AdOk ad) (hi : i + 9 ≤ L ∧ L ≤ 4608) (hcc : cells + 111 ≤ 600000 ∧ slots + 884 ≤ 7302250) (hJ : NM D (fun q => s.heap.size ≤ q) (cw cT X I a ++ mw cT ad Im Jm am gz) s.heap H locs) (hLI : LI X I a Im am) (hl : lv_has ls 4 [(0, .ref b), (1, .ref (X.1 0)), (2, .ref (ad 46)), (3, .int (nI i))])
    (kk : ∀ (X' : CX) (I' : Nat → Int32) (a' : Nat → Nat → Int32) (Im' : Nat → Int32) (Jm' : Nat → Int64) (am' : Nat → Nat → Int32) (gz' : Nat → Nat → Int64) (H' : Heap) (locs' : List Loc), NM D (fun q => s.heap.size ≤ q) (cw cT X' I' a' ++ mw cT ad Im' Jm' am' gz') s.heap H' locs' → LI X' I' a' Im' am' → X'.1 0 = X.1 0 → W p l e room_1 s m #[Value.ref b] below meth c H' locs' (cells + 111) (slots + 884) Q (F0 m 1048 ls [])) : W p l e room_1 s m #[Value.ref b] below meth c H locs cells slots Q (F0 m 475 ls []) := by
  have hx := hC.1
  have hb := hC.2.1
  obtain ⟨nb, T, tl, tb, ft, la, szz, ce, hCI, hRI⟩ := hLI
  have hn8 := hCI.1.2.2.1
  refine lv_aload_n hx hb d_law_475 rfl (lv_at hl 1 rfl) ?_
  refine la_c (j := 1) hx hb hX hbl hJ.2.2 hi hl rfl rfl (by decide) (by decide) d_law_476 d_law_477 d_law_478 d_law_479 d_law_480 ?_
  refine la_c (j := 2) hx hb hX hbl hJ.2.2 hi hl rfl rfl (by decide) (by decide) d_law_481 d_law_482 d_law_483 d_law_484 d_law_485 ?_
  refine la_c (j := 3) hx hb hX hbl hJ.2.2 hi hl rfl rfl (by decide) (by decide) d_law_486 d_law_487 d_law_488 d_law_489 d_law_490 ?_
  have hm := k_So_point l D cT X I a (xs (i + 1)) (xs (i + 2)) (xs (i + 3)) nb T tl tb ft la szz ce hCI
  refine jw_cm (np := 3) hC hK hJ hm rfl ⟨wl_La_57, wi_So_point, ws_So_point, wc_So_point, wn_So⟩ ⟨by decide, by decide, by decide +kernel⟩ ⟨Nat.le_of_ble_eq_true rfl, Nat.le_of_ble_eq_true rfl⟩ hl.1 rfl (rest := []) rfl (Nat.le_of_ble_eq_true rfl) ⟨by show cells ≤ 600000; omega, by show slots ≤ 7302250; omega⟩ d_law_491 (fun r1 I1 a1 H locs hp1 hJ => ?_)
  refine lv_aload_n hx hb d_law_494 rfl (lv_at hl 2 rfl) ?_
  refine la_c (j := 1) hx hb hX hbl hJ.2.2 hi hl rfl rfl (by decide) (by decide) d_law_495 d_law_496 d_law_497 d_law_498 d_law_499 ?_
  refine la_c (j := 2) hx hb hX hbl hJ.2.2 hi hl rfl rfl (by decide) (by decide) d_law_500 d_law_501 d_law_502 d_law_503 d_law_504 ?_
  refine la_c (j := 3) hx hb hX hbl hJ.2.2 hi hl rfl rfl (by decide) (by decide) d_law_505 d_law_506 d_law_507 d_law_508 d_law_509 ?_
  have hm2 := c_Mo_point l D cT ad Im Jm am gz (xs (i + 1)) (xs (i + 2)) (xs (i + 3)) nb T hRI.1 hn8 hRI.2.1
  refine jw_mm (np := 3) hC hK hJ hAd hm2 rfl ⟨wl_La_61, wi_Mo_point, ws_Mo_point, wc_Mo_point, wn_Mo⟩ ⟨by decide, by decide, by decide +kernel⟩ ⟨Nat.le_of_ble_eq_true rfl, Nat.le_of_ble_eq_true rfl⟩ hl.1 rfl (rest := [.int r1]) rfl (Nat.le_of_ble_eq_true rfl) ⟨by show _ ≤ 600000; omega, by show _ ≤ 7302250; omega⟩ d_law_510 (fun r2 I2 J2 a2 g2 H locs hp2 hJ => ?_)
  have he : r1 = r2 := e_point hCI (fun h => (hp1.1 h).1) hp1.2.1 hp2.2
  refine lv_icmp_eq (tgt := 1048) hx hb d_law_513 (by decide) (fun _ => ?_) (fun z => absurd he z)
  refine W.widen (k := cells + 111) (n := slots + 884) (by omega) (by omega) ?_
  exact kk X I1 a1 I2 J2 a2 g2 _ _ hJ ⟨nb, T, tl, tb, ft, la, szz, ce, hp1.2.2, RI_sp hRI hp2.1⟩ rfl

set_option maxHeartbeats 1000000 in
set_option maxRecDepth 100000 in
theorem op_skin  (hC : CallFix p m c code 4 s #[Value.ref b] GW R_La) (hK : KE D cT s) (hX : va_X b L xs s s.heap) (hbl : b < s.heap.size) (hZ : SE adK adV s.heap.size s) (hAd : AdOk ad) (hi : i + 9 ≤ L ∧ L ≤ 4608) (hcc : cells + 111 ≤ 600000 ∧ slots + 884 ≤ 7302250) (hJ : NM D (fun q => s.heap.size ≤ q) (cw cT X I a ++ mw cT ad Im Jm am gz) s.heap H locs) (hLI : LI X I a Im am) (hl : lv_has ls 4 [(0, .ref b), (1, .ref (X.1 0)), (2, .ref (ad 46)), (3, .int (nI i))])
    (kk : ∀ (X' : CX) (I' : Nat → Int32) (a' : Nat → Nat → Int32) (Im' : Nat → Int32) (Jm' : Nat → Int64) (am' : Nat → Nat → Int32) (gz' : Nat → Nat → Int64) (H' : Heap) (locs' : List Loc), NM D (fun q => s.heap.size ≤ q) (cw cT X' I' a' ++ mw cT ad Im' Jm' am' gz') s.heap H' locs' → LI X' I' a' Im' am' → X'.1 0 = X.1 0 → W p l e room_1 s m #[Value.ref b] below meth c H' locs' (cells + 111) (slots + 884) Q (F0 m 1048 ls [])) : W p l e room_1 s m #[Value.ref b] below meth c H locs cells slots Q (F0 m 518 ls []) := by
  have hx := hC.1
  have hb := hC.2.1
  obtain ⟨nb, T, tl, tb, ft, la, szz, ce, hCI, hRI⟩ := hLI
  have hn8 := hCI.1.2.2.1
  refine lv_aload_n hx hb d_law_518 rfl (lv_at hl 1 rfl) ?_
  refine la_c (j := 1) hx hb hX hbl hJ.2.2 hi hl rfl rfl (by decide) (by decide) d_law_519 d_law_520 d_law_521 d_law_522 d_law_523 ?_
  refine la_c (j := 2) hx hb hX hbl hJ.2.2 hi hl rfl rfl (by decide) (by decide) d_law_524 d_law_525 d_law_526 d_law_527 d_law_528 ?_
  have hm := k_So_skin l D cT X I a (xs (i + 1)) (xs (i + 2)) nb T tl tb ft la szz ce hCI
  refine jw_cm (np := 2) hC hK hJ hm rfl ⟨wl_La_62, wi_So_skin, ws_So_skin, wc_So_skin, wn_So⟩ ⟨by decide, by decide, by decide +kernel⟩ ⟨Nat.le_of_ble_eq_true rfl, Nat.le_of_ble_eq_true rfl⟩ hl.1 rfl (rest := []) rfl (Nat.le_of_ble_eq_true rfl) ⟨by show cells ≤ 600000; omega, by show slots ≤ 7302250; omega⟩ d_law_529 (fun r1 I1 a1 H locs hp1 hJ => ?_)
  refine lv_aload_n hx hb d_law_532 rfl (lv_at hl 2 rfl) ?_
  refine la_c (j := 1) hx hb hX hbl hJ.2.2 hi hl rfl rfl (by decide) (by decide) d_law_533 d_law_534 d_law_535 d_law_536 d_law_537 ?_
  refine la_c (j := 2) hx hb hX hbl hJ.2.2 hi hl rfl rfl (by decide) (by decide) d_law_538 d_law_539 d_law_540 d_law_541 d_law_542 ?_
  have hm2 := c_Mo_skin l D cT ad Im Jm am gz (xs (i + 1)) (xs (i + 2)) nb T hRI.1 hn8 hRI.2.1
  refine jw_mm (np := 2) hC hK hJ hAd hm2 rfl ⟨wl_La_65, wi_Mo_skin, ws_Mo_skin, wc_Mo_skin, wn_Mo⟩ ⟨by decide, by decide, by decide +kernel⟩ ⟨Nat.le_of_ble_eq_true rfl, Nat.le_of_ble_eq_true rfl⟩ hl.1 rfl (rest := [.int r1]) rfl (Nat.le_of_ble_eq_true rfl) ⟨by show _ ≤ 600000; omega, by show _ ≤ 7302250; omega⟩ d_law_543 (fun r2 I2 J2 a2 g2 H locs hp2 hJ => ?_)
  have he : r1 = r2 := e_skin hCI (fun h => (hp1.1 h).1) hp1.2.1 hp2.2
  refine lv_icmp_eq (tgt := 1048) hx hb d_law_546 (by decide) (fun _ => ?_) (fun z => absurd he z)
  refine W.widen (k := cells + 111) (n := slots + 884) (by omega) (by omega) ?_
  exact kk X I1 a1 I2 J2 a2 g2 _ _ hJ ⟨nb, T, tl, tb, ft, la, szz, ce, hp1.2.2, RI_sp hRI hp2.1⟩ rfl

set_option maxHeartbeats 1000000 in
set_option maxRecDepth 100000 in
theorem op_parts  (hC : CallFix p m c code 4 s #[Value.ref b] GW R_La) (hK : KE D cT s) (hX : va_X b L xs s s.heap) (hbl : b < s.heap.size) (hZ : SE adK adV s.heap.size s) (hAd : AdOk ad) (hi : i + 9 ≤ L ∧ L ≤ 4608) (hcc : cells + 111 ≤ 600000 ∧ slots + 884 ≤ 7302250) (hJ : NM D (fun q => s.heap.size ≤ q) (cw cT X I a ++ mw cT ad Im Jm am gz) s.heap H locs) (hLI : LI X I a Im am) (hl : lv_has ls 4 [(0, .ref b), (1, .ref (X.1 0)), (2, .ref (ad 46)), (3, .int (nI i))])
    (kk : ∀ (X' : CX) (I' : Nat → Int32) (a' : Nat → Nat → Int32) (Im' : Nat → Int32) (Jm' : Nat → Int64) (am' : Nat → Nat → Int32) (gz' : Nat → Nat → Int64) (H' : Heap) (locs' : List Loc), NM D (fun q => s.heap.size ≤ q) (cw cT X' I' a' ++ mw cT ad Im' Jm' am' gz') s.heap H' locs' → LI X' I' a' Im' am' → X'.1 0 = X.1 0 → W p l e room_1 s m #[Value.ref b] below meth c H' locs' (cells + 111) (slots + 884) Q (F0 m 1048 ls [])) : W p l e room_1 s m #[Value.ref b] below meth c H locs cells slots Q (F0 m 551 ls []) := by
  have hx := hC.1
  have hb := hC.2.1
  obtain ⟨nb, T, tl, tb, ft, la, szz, ce, hCI, hRI⟩ := hLI
  have hn8 := hCI.1.2.2.1
  refine lv_aload_n hx hb d_law_551 rfl (lv_at hl 1 rfl) ?_
  refine la_c (j := 1) hx hb hX hbl hJ.2.2 hi hl rfl rfl (by decide) (by decide) d_law_552 d_law_553 d_law_554 d_law_555 d_law_556 ?_
  refine la_c (j := 2) hx hb hX hbl hJ.2.2 hi hl rfl rfl (by decide) (by decide) d_law_557 d_law_558 d_law_559 d_law_560 d_law_561 ?_
  have hm := k_So_parts l D cT X I a (xs (i + 1)) (xs (i + 2)) nb T tl tb ft la szz ce hCI
  refine jw_cm (np := 2) hC hK hJ hm rfl ⟨wl_La_66, wi_So_parts, ws_So_parts, wc_So_parts, wn_So⟩ ⟨by decide, by decide, by decide +kernel⟩ ⟨Nat.le_of_ble_eq_true rfl, Nat.le_of_ble_eq_true rfl⟩ hl.1 rfl (rest := []) rfl (Nat.le_of_ble_eq_true rfl) ⟨by show cells ≤ 600000; omega, by show slots ≤ 7302250; omega⟩ d_law_562 (fun r1 I1 a1 H locs hp1 hJ => ?_)
  refine lv_aload_n hx hb d_law_565 rfl (lv_at hl 2 rfl) ?_
  refine la_c (j := 1) hx hb hX hbl hJ.2.2 hi hl rfl rfl (by decide) (by decide) d_law_566 d_law_567 d_law_568 d_law_569 d_law_570 ?_
  refine la_c (j := 2) hx hb hX hbl hJ.2.2 hi hl rfl rfl (by decide) (by decide) d_law_571 d_law_572 d_law_573 d_law_574 d_law_575 ?_
  have hm2 := c_Mo_parts l D cT ad Im Jm am gz (xs (i + 1)) (xs (i + 2)) nb T hRI.1 hn8 hRI.2.1
  refine jw_mm (np := 2) hC hK hJ hAd hm2 rfl ⟨wl_La_69, wi_Mo_parts, ws_Mo_parts, wc_Mo_parts, wn_Mo⟩ ⟨by decide, by decide, by decide +kernel⟩ ⟨Nat.le_of_ble_eq_true rfl, Nat.le_of_ble_eq_true rfl⟩ hl.1 rfl (rest := [.int r1]) rfl (Nat.le_of_ble_eq_true rfl) ⟨by show _ ≤ 600000; omega, by show _ ≤ 7302250; omega⟩ d_law_576 (fun r2 I2 J2 a2 g2 H locs hp2 hJ => ?_)
  have he : r1 = r2 := e_parts hCI (fun h => (hp1.1 h).1) hp1.2.1 hp2.2
  refine lv_icmp_eq (tgt := 1048) hx hb d_law_579 (by decide) (fun _ => ?_) (fun z => absurd he z)
  refine W.widen (k := cells + 111) (n := slots + 884) (by omega) (by omega) ?_
  exact kk X I1 a1 I2 J2 a2 g2 _ _ hJ ⟨nb, T, tl, tb, ft, la, szz, ce, hp1.2.2, RI_sp hRI hp2.1⟩ rfl

set_option maxHeartbeats 1000000 in
set_option maxRecDepth 100000 in
theorem op_part  (hC : CallFix p m c code 4 s #[Value.ref b] GW R_La) (hK : KE D cT s) (hX : va_X b L xs s s.heap) (hbl : b < s.heap.size) (hZ : SE adK adV s.heap.size s) (hAd : AdOk ad) (hi : i + 9 ≤ L ∧ L ≤ 4608) (hcc : cells + 111 ≤ 600000 ∧ slots + 884 ≤ 7302250) (hJ : NM D (fun q => s.heap.size ≤ q) (cw cT X I a ++ mw cT ad Im Jm am gz) s.heap H locs) (hLI : LI X I a Im am) (hl : lv_has ls 4 [(0, .ref b), (1, .ref (X.1 0)), (2, .ref (ad 46)), (3, .int (nI i))])
    (kk : ∀ (X' : CX) (I' : Nat → Int32) (a' : Nat → Nat → Int32) (Im' : Nat → Int32) (Jm' : Nat → Int64) (am' : Nat → Nat → Int32) (gz' : Nat → Nat → Int64) (H' : Heap) (locs' : List Loc), NM D (fun q => s.heap.size ≤ q) (cw cT X' I' a' ++ mw cT ad Im' Jm' am' gz') s.heap H' locs' → LI X' I' a' Im' am' → X'.1 0 = X.1 0 → W p l e room_1 s m #[Value.ref b] below meth c H' locs' (cells + 111) (slots + 884) Q (F0 m 1048 ls [])) : W p l e room_1 s m #[Value.ref b] below meth c H locs cells slots Q (F0 m 584 ls []) := by
  have hx := hC.1
  have hb := hC.2.1
  obtain ⟨nb, T, tl, tb, ft, la, szz, ce, hCI, hRI⟩ := hLI
  have hn8 := hCI.1.2.2.1
  refine lv_aload_n hx hb d_law_584 rfl (lv_at hl 1 rfl) ?_
  refine la_c (j := 1) hx hb hX hbl hJ.2.2 hi hl rfl rfl (by decide) (by decide) d_law_585 d_law_586 d_law_587 d_law_588 d_law_589 ?_
  refine la_c (j := 2) hx hb hX hbl hJ.2.2 hi hl rfl rfl (by decide) (by decide) d_law_590 d_law_591 d_law_592 d_law_593 d_law_594 ?_
  refine la_c (j := 3) hx hb hX hbl hJ.2.2 hi hl rfl rfl (by decide) (by decide) d_law_595 d_law_596 d_law_597 d_law_598 d_law_599 ?_
  refine la_c (j := 4) hx hb hX hbl hJ.2.2 hi hl rfl rfl (by decide) (by decide) d_law_600 d_law_601 d_law_602 d_law_603 d_law_604 ?_
  have hm := k_So_part l D cT X I a (xs (i + 1)) (xs (i + 2)) (xs (i + 3)) (xs (i + 4)) nb T tl tb ft la szz ce hCI
  refine jw_cm (np := 4) hC hK hJ hm rfl ⟨wl_La_70, wi_So_part, ws_So_part, wc_So_part, wn_So⟩ ⟨by decide, by decide, by decide +kernel⟩ ⟨Nat.le_of_ble_eq_true rfl, Nat.le_of_ble_eq_true rfl⟩ hl.1 rfl (rest := []) rfl (Nat.le_of_ble_eq_true rfl) ⟨by show cells ≤ 600000; omega, by show slots ≤ 7302250; omega⟩ d_law_605 (fun r1 I1 a1 H locs hp1 hJ => ?_)
  refine lv_aload_n hx hb d_law_608 rfl (lv_at hl 2 rfl) ?_
  refine la_c (j := 1) hx hb hX hbl hJ.2.2 hi hl rfl rfl (by decide) (by decide) d_law_609 d_law_610 d_law_611 d_law_612 d_law_613 ?_
  refine la_c (j := 2) hx hb hX hbl hJ.2.2 hi hl rfl rfl (by decide) (by decide) d_law_614 d_law_615 d_law_616 d_law_617 d_law_618 ?_
  refine la_c (j := 3) hx hb hX hbl hJ.2.2 hi hl rfl rfl (by decide) (by decide) d_law_619 d_law_620 d_law_621 d_law_622 d_law_623 ?_
  refine la_c (j := 4) hx hb hX hbl hJ.2.2 hi hl rfl rfl (by decide) (by decide) d_law_624 d_law_625 d_law_626 d_law_627 d_law_628 ?_
  have hm2 := c_Mo_part l D cT ad Im Jm am gz (xs (i + 1)) (xs (i + 2)) (xs (i + 3)) (xs (i + 4)) nb T hRI.1 hn8 hRI.2.1
  refine jw_mm (np := 4) hC hK hJ hAd hm2 rfl ⟨wl_La_73, wi_Mo_part, ws_Mo_part, wc_Mo_part, wn_Mo⟩ ⟨by decide, by decide, by decide +kernel⟩ ⟨Nat.le_of_ble_eq_true rfl, Nat.le_of_ble_eq_true rfl⟩ hl.1 rfl (rest := [.int r1]) rfl (Nat.le_of_ble_eq_true rfl) ⟨by show _ ≤ 600000; omega, by show _ ≤ 7302250; omega⟩ d_law_629 (fun r2 I2 J2 a2 g2 H locs hp2 hJ => ?_)
  have he : r1 = r2 := e_part hCI (fun h => (hp1.1 h).1) hp1.2.1 hp2.2
  refine lv_icmp_eq (tgt := 1048) hx hb d_law_632 (by decide) (fun _ => ?_) (fun z => absurd he z)
  refine W.widen (k := cells + 111) (n := slots + 884) (by omega) (by omega) ?_
  exact kk X I1 a1 I2 J2 a2 g2 _ _ hJ ⟨nb, T, tl, tb, ft, la, szz, ce, hp1.2.2, RI_sp hRI hp2.1⟩ rfl

set_option maxHeartbeats 1000000 in
set_option maxRecDepth 100000 in
theorem op_slice  (hC : CallFix p m c code 4 s #[Value.ref b] GW R_La) (hK : KE D cT s) (hX : va_X b L xs s s.heap) (hbl : b < s.heap.size) (hZ : SE adK adV s.heap.size s) (hAd : AdOk ad) (hi : i + 9 ≤ L ∧ L ≤ 4608) (hcc : cells + 111 ≤ 600000 ∧ slots + 884 ≤ 7302250) (hJ : NM D (fun q => s.heap.size ≤ q) (cw cT X I a ++ mw cT ad Im Jm am gz) s.heap H locs) (hLI : LI X I a Im am) (hl : lv_has ls 4 [(0, .ref b), (1, .ref (X.1 0)), (2, .ref (ad 46)), (3, .int (nI i))])
    (kk : ∀ (X' : CX) (I' : Nat → Int32) (a' : Nat → Nat → Int32) (Im' : Nat → Int32) (Jm' : Nat → Int64) (am' : Nat → Nat → Int32) (gz' : Nat → Nat → Int64) (H' : Heap) (locs' : List Loc), NM D (fun q => s.heap.size ≤ q) (cw cT X' I' a' ++ mw cT ad Im' Jm' am' gz') s.heap H' locs' → LI X' I' a' Im' am' → X'.1 0 = X.1 0 → W p l e room_1 s m #[Value.ref b] below meth c H' locs' (cells + 111) (slots + 884) Q (F0 m 1048 ls [])) : W p l e room_1 s m #[Value.ref b] below meth c H locs cells slots Q (F0 m 637 ls []) := by
  have hx := hC.1
  have hb := hC.2.1
  obtain ⟨nb, T, tl, tb, ft, la, szz, ce, hCI, hRI⟩ := hLI
  have hn8 := hCI.1.2.2.1
  refine lv_aload_n hx hb d_law_637 rfl (lv_at hl 1 rfl) ?_
  refine la_c (j := 1) hx hb hX hbl hJ.2.2 hi hl rfl rfl (by decide) (by decide) d_law_638 d_law_639 d_law_640 d_law_641 d_law_642 ?_
  refine la_c (j := 2) hx hb hX hbl hJ.2.2 hi hl rfl rfl (by decide) (by decide) d_law_643 d_law_644 d_law_645 d_law_646 d_law_647 ?_
  refine la_c (j := 3) hx hb hX hbl hJ.2.2 hi hl rfl rfl (by decide) (by decide) d_law_648 d_law_649 d_law_650 d_law_651 d_law_652 ?_
  have hm := k_So_slice l D cT X I a (xs (i + 1)) (xs (i + 2)) (xs (i + 3)) nb T tl tb ft la szz ce hCI
  refine jw_cm (np := 3) hC hK hJ hm rfl ⟨wl_La_74, wi_So_slice, ws_So_slice, wc_So_slice, wn_So⟩ ⟨by decide, by decide, by decide +kernel⟩ ⟨Nat.le_of_ble_eq_true rfl, Nat.le_of_ble_eq_true rfl⟩ hl.1 rfl (rest := []) rfl (Nat.le_of_ble_eq_true rfl) ⟨by show cells ≤ 600000; omega, by show slots ≤ 7302250; omega⟩ d_law_653 (fun r1 I1 a1 H locs hp1 hJ => ?_)
  refine lv_aload_n hx hb d_law_656 rfl (lv_at hl 2 rfl) ?_
  refine la_c (j := 1) hx hb hX hbl hJ.2.2 hi hl rfl rfl (by decide) (by decide) d_law_657 d_law_658 d_law_659 d_law_660 d_law_661 ?_
  refine la_c (j := 2) hx hb hX hbl hJ.2.2 hi hl rfl rfl (by decide) (by decide) d_law_662 d_law_663 d_law_664 d_law_665 d_law_666 ?_
  refine la_c (j := 3) hx hb hX hbl hJ.2.2 hi hl rfl rfl (by decide) (by decide) d_law_667 d_law_668 d_law_669 d_law_670 d_law_671 ?_
  have hm2 := c_Mo_slice l D cT ad Im Jm am gz (xs (i + 1)) (xs (i + 2)) (xs (i + 3)) nb T hRI.1 hn8 hRI.2.1
  refine jw_mm (np := 3) hC hK hJ hAd hm2 rfl ⟨wl_La_77, wi_Mo_slice, ws_Mo_slice, wc_Mo_slice, wn_Mo⟩ ⟨by decide, by decide, by decide +kernel⟩ ⟨Nat.le_of_ble_eq_true rfl, Nat.le_of_ble_eq_true rfl⟩ hl.1 rfl (rest := [.int r1]) rfl (Nat.le_of_ble_eq_true rfl) ⟨by show _ ≤ 600000; omega, by show _ ≤ 7302250; omega⟩ d_law_672 (fun r2 I2 J2 a2 g2 H locs hp2 hJ => ?_)
  have he : r1 = r2 := e_slice hCI (fun h => (hp1.1 h).1) hp1.2.1 hp2.2
  refine lv_icmp_eq (tgt := 1048) hx hb d_law_675 (by decide) (fun _ => ?_) (fun z => absurd he z)
  refine W.widen (k := cells + 111) (n := slots + 884) (by omega) (by omega) ?_
  exact kk X I1 a1 I2 J2 a2 g2 _ _ hJ ⟨nb, T, tl, tb, ft, la, szz, ce, hp1.2.2, RI_sp hRI hp2.1⟩ rfl

set_option maxHeartbeats 1000000 in
set_option maxRecDepth 100000 in
theorem op_thin  (hC : CallFix p m c code 4 s #[Value.ref b] GW R_La) (hK : KE D cT s) (hX : va_X b L xs s s.heap) (hbl : b < s.heap.size) (hZ : SE adK adV s.heap.size s) (hAd : AdOk ad) (hi : i + 9 ≤ L ∧ L ≤ 4608) (hcc : cells + 111 ≤ 600000 ∧ slots + 884 ≤ 7302250) (hJ : NM D (fun q => s.heap.size ≤ q) (cw cT X I a ++ mw cT ad Im Jm am gz) s.heap H locs) (hLI : LI X I a Im am) (hl : lv_has ls 4 [(0, .ref b), (1, .ref (X.1 0)), (2, .ref (ad 46)), (3, .int (nI i))])
    (kk : ∀ (X' : CX) (I' : Nat → Int32) (a' : Nat → Nat → Int32) (Im' : Nat → Int32) (Jm' : Nat → Int64) (am' : Nat → Nat → Int32) (gz' : Nat → Nat → Int64) (H' : Heap) (locs' : List Loc), NM D (fun q => s.heap.size ≤ q) (cw cT X' I' a' ++ mw cT ad Im' Jm' am' gz') s.heap H' locs' → LI X' I' a' Im' am' → X'.1 0 = X.1 0 → W p l e room_1 s m #[Value.ref b] below meth c H' locs' (cells + 111) (slots + 884) Q (F0 m 1048 ls [])) : W p l e room_1 s m #[Value.ref b] below meth c H locs cells slots Q (F0 m 680 ls []) := by
  have hx := hC.1
  have hb := hC.2.1
  obtain ⟨nb, T, tl, tb, ft, la, szz, ce, hCI, hRI⟩ := hLI
  have hn8 := hCI.1.2.2.1
  refine lv_aload_n hx hb d_law_680 rfl (lv_at hl 1 rfl) ?_
  refine la_c (j := 1) hx hb hX hbl hJ.2.2 hi hl rfl rfl (by decide) (by decide) d_law_681 d_law_682 d_law_683 d_law_684 d_law_685 ?_
  refine la_c (j := 2) hx hb hX hbl hJ.2.2 hi hl rfl rfl (by decide) (by decide) d_law_686 d_law_687 d_law_688 d_law_689 d_law_690 ?_
  have hm := k_So_thin l D cT X I a (xs (i + 1)) (xs (i + 2)) nb T tl tb ft la szz ce hCI
  refine jw_cm (np := 2) hC hK hJ hm rfl ⟨wl_La_78, wi_So_thin, ws_So_thin, wc_So_thin, wn_So⟩ ⟨by decide, by decide, by decide +kernel⟩ ⟨Nat.le_of_ble_eq_true rfl, Nat.le_of_ble_eq_true rfl⟩ hl.1 rfl (rest := []) rfl (Nat.le_of_ble_eq_true rfl) ⟨by show cells ≤ 600000; omega, by show slots ≤ 7302250; omega⟩ d_law_691 (fun r1 I1 a1 H locs hp1 hJ => ?_)
  refine lv_aload_n hx hb d_law_694 rfl (lv_at hl 2 rfl) ?_
  refine la_c (j := 1) hx hb hX hbl hJ.2.2 hi hl rfl rfl (by decide) (by decide) d_law_695 d_law_696 d_law_697 d_law_698 d_law_699 ?_
  refine la_c (j := 2) hx hb hX hbl hJ.2.2 hi hl rfl rfl (by decide) (by decide) d_law_700 d_law_701 d_law_702 d_law_703 d_law_704 ?_
  have hm2 := c_Mo_thin l D cT ad Im Jm am gz (xs (i + 1)) (xs (i + 2)) nb T hRI.1 hn8 hRI.2.1
  refine jw_mm (np := 2) hC hK hJ hAd hm2 rfl ⟨wl_La_81, wi_Mo_thin, ws_Mo_thin, wc_Mo_thin, wn_Mo⟩ ⟨by decide, by decide, by decide +kernel⟩ ⟨Nat.le_of_ble_eq_true rfl, Nat.le_of_ble_eq_true rfl⟩ hl.1 rfl (rest := [.int r1]) rfl (Nat.le_of_ble_eq_true rfl) ⟨by show _ ≤ 600000; omega, by show _ ≤ 7302250; omega⟩ d_law_705 (fun r2 I2 J2 a2 g2 H locs hp2 hJ => ?_)
  have he : r1 = r2 := e_thin hCI (fun h => (hp1.1 h).1) hp1.2.1 hp2.2
  refine lv_icmp_eq (tgt := 1048) hx hb d_law_708 (by decide) (fun _ => ?_) (fun z => absurd he z)
  refine W.widen (k := cells + 111) (n := slots + 884) (by omega) (by omega) ?_
  exact kk X I1 a1 I2 J2 a2 g2 _ _ hJ ⟨nb, T, tl, tb, ft, la, szz, ce, hp1.2.2, RI_sp hRI hp2.1⟩ rfl

set_option maxHeartbeats 1000000 in
set_option maxRecDepth 100000 in
theorem op_overhang  (hC : CallFix p m c code 4 s #[Value.ref b] GW R_La) (hK : KE D cT s) (hX : va_X b L xs s s.heap) (hbl : b < s.heap.size) (hZ : SE adK adV s.heap.size s) (hAd : AdOk ad) (hi : i + 9 ≤ L ∧ L ≤ 4608) (hcc : cells + 111 ≤ 600000 ∧ slots + 884 ≤ 7302250) (hJ : NM D (fun q => s.heap.size ≤ q) (cw cT X I a ++ mw cT ad Im Jm am gz) s.heap H locs) (hLI : LI X I a Im am) (hl : lv_has ls 4 [(0, .ref b), (1, .ref (X.1 0)), (2, .ref (ad 46)), (3, .int (nI i))])
    (kk : ∀ (X' : CX) (I' : Nat → Int32) (a' : Nat → Nat → Int32) (Im' : Nat → Int32) (Jm' : Nat → Int64) (am' : Nat → Nat → Int32) (gz' : Nat → Nat → Int64) (H' : Heap) (locs' : List Loc), NM D (fun q => s.heap.size ≤ q) (cw cT X' I' a' ++ mw cT ad Im' Jm' am' gz') s.heap H' locs' → LI X' I' a' Im' am' → X'.1 0 = X.1 0 → W p l e room_1 s m #[Value.ref b] below meth c H' locs' (cells + 111) (slots + 884) Q (F0 m 1048 ls [])) : W p l e room_1 s m #[Value.ref b] below meth c H locs cells slots Q (F0 m 713 ls []) := by
  have hx := hC.1
  have hb := hC.2.1
  obtain ⟨nb, T, tl, tb, ft, la, szz, ce, hCI, hRI⟩ := hLI
  have hn8 := hCI.1.2.2.1
  refine lv_aload_n hx hb d_law_713 rfl (lv_at hl 1 rfl) ?_
  refine la_c (j := 1) hx hb hX hbl hJ.2.2 hi hl rfl rfl (by decide) (by decide) d_law_714 d_law_715 d_law_716 d_law_717 d_law_718 ?_
  refine la_c (j := 2) hx hb hX hbl hJ.2.2 hi hl rfl rfl (by decide) (by decide) d_law_719 d_law_720 d_law_721 d_law_722 d_law_723 ?_
  have hm := k_So_overhang l D cT X I a (xs (i + 1)) (xs (i + 2)) nb T tl tb ft la szz ce hCI
  refine jw_cm (np := 2) hC hK hJ hm rfl ⟨wl_La_82, wi_So_overhang, ws_So_overhang, wc_So_overhang, wn_So⟩ ⟨by decide, by decide, by decide +kernel⟩ ⟨Nat.le_of_ble_eq_true rfl, Nat.le_of_ble_eq_true rfl⟩ hl.1 rfl (rest := []) rfl (Nat.le_of_ble_eq_true rfl) ⟨by show cells ≤ 600000; omega, by show slots ≤ 7302250; omega⟩ d_law_724 (fun r1 I1 a1 H locs hp1 hJ => ?_)
  refine lv_aload_n hx hb d_law_727 rfl (lv_at hl 2 rfl) ?_
  refine la_c (j := 1) hx hb hX hbl hJ.2.2 hi hl rfl rfl (by decide) (by decide) d_law_728 d_law_729 d_law_730 d_law_731 d_law_732 ?_
  refine la_c (j := 2) hx hb hX hbl hJ.2.2 hi hl rfl rfl (by decide) (by decide) d_law_733 d_law_734 d_law_735 d_law_736 d_law_737 ?_
  have hm2 := c_Mo_overhang l D cT ad Im Jm am gz (xs (i + 1)) (xs (i + 2)) nb T hRI.1 hn8 hRI.2.1
  refine jw_mm (np := 2) hC hK hJ hAd hm2 rfl ⟨wl_La_85, wi_Mo_overhang, ws_Mo_overhang, wc_Mo_overhang, wn_Mo⟩ ⟨by decide, by decide, by decide +kernel⟩ ⟨Nat.le_of_ble_eq_true rfl, Nat.le_of_ble_eq_true rfl⟩ hl.1 rfl (rest := [.int r1]) rfl (Nat.le_of_ble_eq_true rfl) ⟨by show _ ≤ 600000; omega, by show _ ≤ 7302250; omega⟩ d_law_738 (fun r2 I2 J2 a2 g2 H locs hp2 hJ => ?_)
  have he : r1 = r2 := e_overhang hCI (fun h => (hp1.1 h).1) hp1.2.1 hp2.2
  refine lv_icmp_eq (tgt := 1048) hx hb d_law_741 (by decide) (fun _ => ?_) (fun z => absurd he z)
  refine W.widen (k := cells + 111) (n := slots + 884) (by omega) (by omega) ?_
  exact kk X I1 a1 I2 J2 a2 g2 _ _ hJ ⟨nb, T, tl, tb, ft, la, szz, ce, hp1.2.2, RI_sp hRI hp2.1⟩ rfl

set_option maxHeartbeats 1000000 in
set_option maxRecDepth 100000 in
theorem op_both  (hC : CallFix p m c code 4 s #[Value.ref b] GW R_La) (hK : KE D cT s) (hX : va_X b L xs s s.heap) (hbl : b < s.heap.size) (hZ : SE adK adV s.heap.size s) (hAd : AdOk ad) (hi : i + 9 ≤ L ∧ L ≤ 4608) (hcc : cells + 111 ≤ 600000 ∧ slots + 884 ≤ 7302250) (hJ : NM D (fun q => s.heap.size ≤ q) (cw cT X I a ++ mw cT ad Im Jm am gz) s.heap H locs) (hLI : LI X I a Im am) (hl : lv_has ls 4 [(0, .ref b), (1, .ref (X.1 0)), (2, .ref (ad 46)), (3, .int (nI i))])
    (kk : ∀ (X' : CX) (I' : Nat → Int32) (a' : Nat → Nat → Int32) (Im' : Nat → Int32) (Jm' : Nat → Int64) (am' : Nat → Nat → Int32) (gz' : Nat → Nat → Int64) (H' : Heap) (locs' : List Loc), NM D (fun q => s.heap.size ≤ q) (cw cT X' I' a' ++ mw cT ad Im' Jm' am' gz') s.heap H' locs' → LI X' I' a' Im' am' → X'.1 0 = X.1 0 → W p l e room_1 s m #[Value.ref b] below meth c H' locs' (cells + 111) (slots + 884) Q (F0 m 1048 ls [])) : W p l e room_1 s m #[Value.ref b] below meth c H locs cells slots Q (F0 m 746 ls []) := by
  have hx := hC.1
  have hb := hC.2.1
  obtain ⟨nb, T, tl, tb, ft, la, szz, ce, hCI, hRI⟩ := hLI
  have hn8 := hCI.1.2.2.1
  refine lv_aload_n hx hb d_law_746 rfl (lv_at hl 1 rfl) ?_
  refine la_c (j := 1) hx hb hX hbl hJ.2.2 hi hl rfl rfl (by decide) (by decide) d_law_747 d_law_748 d_law_749 d_law_750 d_law_751 ?_
  refine la_c (j := 2) hx hb hX hbl hJ.2.2 hi hl rfl rfl (by decide) (by decide) d_law_752 d_law_753 d_law_754 d_law_755 d_law_756 ?_
  refine la_c (j := 3) hx hb hX hbl hJ.2.2 hi hl rfl rfl (by decide) (by decide) d_law_757 d_law_758 d_law_759 d_law_760 d_law_761 ?_
  have hm := k_So_both l D cT X I a (xs (i + 1)) (xs (i + 2)) (xs (i + 3)) nb T tl tb ft la szz ce hCI
  refine jw_cm (np := 3) hC hK hJ hm rfl ⟨wl_La_86, wi_So_both, ws_So_both, wc_So_both, wn_So⟩ ⟨by decide, by decide, by decide +kernel⟩ ⟨Nat.le_of_ble_eq_true rfl, Nat.le_of_ble_eq_true rfl⟩ hl.1 rfl (rest := []) rfl (Nat.le_of_ble_eq_true rfl) ⟨by show cells ≤ 600000; omega, by show slots ≤ 7302250; omega⟩ d_law_762 (fun r1 I1 a1 H locs hp1 hJ => ?_)
  refine lv_aload_n hx hb d_law_765 rfl (lv_at hl 2 rfl) ?_
  refine la_c (j := 1) hx hb hX hbl hJ.2.2 hi hl rfl rfl (by decide) (by decide) d_law_766 d_law_767 d_law_768 d_law_769 d_law_770 ?_
  refine la_c (j := 2) hx hb hX hbl hJ.2.2 hi hl rfl rfl (by decide) (by decide) d_law_771 d_law_772 d_law_773 d_law_774 d_law_775 ?_
  refine la_c (j := 3) hx hb hX hbl hJ.2.2 hi hl rfl rfl (by decide) (by decide) d_law_776 d_law_777 d_law_778 d_law_779 d_law_780 ?_
  have hm2 := c_Mo_both l D cT ad Im Jm am gz (xs (i + 1)) (xs (i + 2)) (xs (i + 3)) nb T hRI.1 hn8 hRI.2.1
  refine jw_mm (np := 3) hC hK hJ hAd hm2 rfl ⟨wl_La_89, wi_Mo_both, ws_Mo_both, wc_Mo_both, wn_Mo⟩ ⟨by decide, by decide, by decide +kernel⟩ ⟨Nat.le_of_ble_eq_true rfl, Nat.le_of_ble_eq_true rfl⟩ hl.1 rfl (rest := [.int r1]) rfl (Nat.le_of_ble_eq_true rfl) ⟨by show _ ≤ 600000; omega, by show _ ≤ 7302250; omega⟩ d_law_781 (fun r2 I2 J2 a2 g2 H locs hp2 hJ => ?_)
  have he : r1 = r2 := e_both hCI hp1.1 hp1.2.1 hp2.2
  refine lv_icmp_eq (tgt := 1048) hx hb d_law_784 (by decide) (fun _ => ?_) (fun z => absurd he z)
  refine W.widen (k := cells + 111) (n := slots + 884) (by omega) (by omega) ?_
  exact kk X I1 a1 I2 J2 a2 g2 _ _ hJ ⟨nb, T, tl, tb, ft, la, szz, ce, hp1.2.2, RI_sp hRI hp2.1⟩ rfl

set_option maxHeartbeats 1000000 in
set_option maxRecDepth 100000 in
theorem op_ray  (hC : CallFix p m c code 4 s #[Value.ref b] GW R_La) (hK : KE D cT s) (hX : va_X b L xs s s.heap) (hbl : b < s.heap.size) (hZ : SE adK adV s.heap.size s) (hAd : AdOk ad) (hi : i + 9 ≤ L ∧ L ≤ 4608) (hcc : cells + 111 ≤ 600000 ∧ slots + 884 ≤ 7302250) (hJ : NM D (fun q => s.heap.size ≤ q) (cw cT X I a ++ mw cT ad Im Jm am gz) s.heap H locs) (hLI : LI X I a Im am) (hl : lv_has ls 4 [(0, .ref b), (1, .ref (X.1 0)), (2, .ref (ad 46)), (3, .int (nI i))])
    (kk : ∀ (X' : CX) (I' : Nat → Int32) (a' : Nat → Nat → Int32) (Im' : Nat → Int32) (Jm' : Nat → Int64) (am' : Nat → Nat → Int32) (gz' : Nat → Nat → Int64) (H' : Heap) (locs' : List Loc), NM D (fun q => s.heap.size ≤ q) (cw cT X' I' a' ++ mw cT ad Im' Jm' am' gz') s.heap H' locs' → LI X' I' a' Im' am' → X'.1 0 = X.1 0 → W p l e room_1 s m #[Value.ref b] below meth c H' locs' (cells + 111) (slots + 884) Q (F0 m 1048 ls [])) : W p l e room_1 s m #[Value.ref b] below meth c H locs cells slots Q (F0 m 789 ls []) := by
  have hx := hC.1
  have hb := hC.2.1
  obtain ⟨nb, T, tl, tb, ft, la, szz, ce, hCI, hRI⟩ := hLI
  have hn8 := hCI.1.2.2.1
  refine lv_aload_n hx hb d_law_789 rfl (lv_at hl 1 rfl) ?_
  refine la_c (j := 1) hx hb hX hbl hJ.2.2 hi hl rfl rfl (by decide) (by decide) d_law_790 d_law_791 d_law_792 d_law_793 d_law_794 ?_
  refine la_c (j := 2) hx hb hX hbl hJ.2.2 hi hl rfl rfl (by decide) (by decide) d_law_795 d_law_796 d_law_797 d_law_798 d_law_799 ?_
  refine la_c (j := 3) hx hb hX hbl hJ.2.2 hi hl rfl rfl (by decide) (by decide) d_law_800 d_law_801 d_law_802 d_law_803 d_law_804 ?_
  refine la_c (j := 4) hx hb hX hbl hJ.2.2 hi hl rfl rfl (by decide) (by decide) d_law_805 d_law_806 d_law_807 d_law_808 d_law_809 ?_
  refine la_c (j := 5) hx hb hX hbl hJ.2.2 hi hl rfl rfl (by decide) (by decide) d_law_810 d_law_811 d_law_812 d_law_813 d_law_814 ?_
  refine la_b (j := 6) hx hb hX hbl hJ.2.2 hi hl rfl rfl (by decide) (by decide) d_law_815 d_law_816 d_law_817 d_law_819 d_law_820 ?_
  refine la_b (j := 7) hx hb hX hbl hJ.2.2 hi hl rfl rfl (by decide) (by decide) d_law_821 d_law_822 d_law_823 d_law_825 d_law_826 ?_
  have hm := k_So_ray l D cT X I a (xs (i + 1)) (xs (i + 2)) (xs (i + 3)) (xs (i + 4)) (xs (i + 5)) (xs (i + 6)) (xs (i + 7)) nb T tl tb ft la szz ce hCI
  refine jw_rd (np := 7) hC hK hJ hm rfl ⟨wl_La_90, wi_So_ray, ws_So_ray, wc_So_ray, wn_So⟩ ⟨by decide, by decide, by decide +kernel⟩ ⟨Nat.le_of_ble_eq_true rfl, Nat.le_of_ble_eq_true rfl⟩ hl.1 rfl (rest := []) rfl (Nat.le_of_ble_eq_true rfl) ⟨by show cells ≤ 600000; omega, by show slots ≤ 7302250; omega⟩ d_law_827 (fun r1 hp1 => ?_)
  refine lv_aload_n hx hb d_law_830 rfl (lv_at hl 2 rfl) ?_
  refine la_c (j := 1) hx hb hX hbl hJ.2.2 hi hl rfl rfl (by decide) (by decide) d_law_831 d_law_832 d_law_833 d_law_834 d_law_835 ?_
  refine la_c (j := 2) hx hb hX hbl hJ.2.2 hi hl rfl rfl (by decide) (by decide) d_law_836 d_law_837 d_law_838 d_law_839 d_law_840 ?_
  refine la_c (j := 3) hx hb hX hbl hJ.2.2 hi hl rfl rfl (by decide) (by decide) d_law_841 d_law_842 d_law_843 d_law_844 d_law_845 ?_
  refine la_c (j := 4) hx hb hX hbl hJ.2.2 hi hl rfl rfl (by decide) (by decide) d_law_846 d_law_847 d_law_848 d_law_849 d_law_850 ?_
  refine la_c (j := 5) hx hb hX hbl hJ.2.2 hi hl rfl rfl (by decide) (by decide) d_law_851 d_law_852 d_law_853 d_law_854 d_law_855 ?_
  refine la_b (j := 6) hx hb hX hbl hJ.2.2 hi hl rfl rfl (by decide) (by decide) d_law_856 d_law_857 d_law_858 d_law_860 d_law_861 ?_
  refine la_b (j := 7) hx hb hX hbl hJ.2.2 hi hl rfl rfl (by decide) (by decide) d_law_862 d_law_863 d_law_864 d_law_866 d_law_867 ?_
  have hm2 := c_Mo_ray l D cT ad Im Jm am gz (xs (i + 1)) (xs (i + 2)) (xs (i + 3)) (xs (i + 4)) (xs (i + 5)) (xs (i + 6)) (xs (i + 7)) nb T hRI.1 hn8 hRI.2.1
  refine jw_mm (np := 7) hC hK hJ hAd hm2 rfl ⟨wl_La_94, wi_Mo_ray, ws_Mo_ray, wc_Mo_ray, wn_Mo⟩ ⟨by decide, by decide, by decide +kernel⟩ ⟨Nat.le_of_ble_eq_true rfl, Nat.le_of_ble_eq_true rfl⟩ hl.1 rfl (rest := [.int r1]) rfl (Nat.le_of_ble_eq_true rfl) ⟨by show _ ≤ 600000; omega, by show _ ≤ 7302250; omega⟩ d_law_868 (fun r2 I2 J2 a2 g2 H locs hp2 hJ => ?_)
  have he : r1 = r2 := e_ray hp1.1 hp1.2 hp2.2
  refine lv_icmp_eq (tgt := 1048) hx hb d_law_871 (by decide) (fun _ => ?_) (fun z => absurd he z)
  refine W.widen (k := cells + 111) (n := slots + 884) (by omega) (by omega) ?_
  exact kk X I a I2 J2 a2 g2 _ _ hJ ⟨nb, T, tl, tb, ft, la, szz, ce, hCI, RI_sp hRI hp2.1⟩ rfl

set_option maxHeartbeats 1000000 in
set_option maxRecDepth 100000 in
theorem op_sheet  (hC : CallFix p m c code 4 s #[Value.ref b] GW R_La) (hK : KE D cT s) (hX : va_X b L xs s s.heap) (hbl : b < s.heap.size) (hZ : SE adK adV s.heap.size s) (hAd : AdOk ad) (hi : i + 9 ≤ L ∧ L ≤ 4608) (hcc : cells + 111 ≤ 600000 ∧ slots + 884 ≤ 7302250) (hJ : NM D (fun q => s.heap.size ≤ q) (cw cT X I a ++ mw cT ad Im Jm am gz) s.heap H locs) (hLI : LI X I a Im am) (hl : lv_has ls 4 [(0, .ref b), (1, .ref (X.1 0)), (2, .ref (ad 46)), (3, .int (nI i))])
    (kk : ∀ (X' : CX) (I' : Nat → Int32) (a' : Nat → Nat → Int32) (Im' : Nat → Int32) (Jm' : Nat → Int64) (am' : Nat → Nat → Int32) (gz' : Nat → Nat → Int64) (H' : Heap) (locs' : List Loc), NM D (fun q => s.heap.size ≤ q) (cw cT X' I' a' ++ mw cT ad Im' Jm' am' gz') s.heap H' locs' → LI X' I' a' Im' am' → X'.1 0 = X.1 0 → W p l e room_1 s m #[Value.ref b] below meth c H' locs' (cells + 111) (slots + 884) Q (F0 m 1048 ls [])) : W p l e room_1 s m #[Value.ref b] below meth c H locs cells slots Q (F0 m 876 ls []) := by
  have hx := hC.1
  have hb := hC.2.1
  obtain ⟨nb, T, tl, tb, ft, la, szz, ce, hCI, hRI⟩ := hLI
  have hn8 := hCI.1.2.2.1
  refine lv_aload_n hx hb d_law_876 rfl (lv_at hl 1 rfl) ?_
  refine la_c (j := 1) hx hb hX hbl hJ.2.2 hi hl rfl rfl (by decide) (by decide) d_law_877 d_law_878 d_law_879 d_law_880 d_law_881 ?_
  refine la_c (j := 2) hx hb hX hbl hJ.2.2 hi hl rfl rfl (by decide) (by decide) d_law_882 d_law_883 d_law_884 d_law_885 d_law_886 ?_
  refine la_c (j := 3) hx hb hX hbl hJ.2.2 hi hl rfl rfl (by decide) (by decide) d_law_887 d_law_888 d_law_889 d_law_890 d_law_891 ?_
  have hm := k_So_sheet l D cT X I a (xs (i + 1)) (xs (i + 2)) (xs (i + 3))
  refine jw_cm (np := 3) hC hK hJ hm rfl ⟨wl_La_95, wi_So_sheet, ws_So_sheet, wc_So_sheet, wn_So⟩ ⟨by decide, by decide, by decide +kernel⟩ ⟨Nat.le_of_ble_eq_true rfl, Nat.le_of_ble_eq_true rfl⟩ hl.1 rfl (rest := []) rfl (Nat.le_of_ble_eq_true rfl) ⟨by show cells ≤ 600000; omega, by show slots ≤ 7302250; omega⟩ d_law_892 (fun r1 I1 a1 H locs hp1 hJ => ?_)
  refine lv_aload_n hx hb d_law_895 rfl (lv_at hl 2 rfl) ?_
  refine la_c (j := 1) hx hb hX hbl hJ.2.2 hi hl rfl rfl (by decide) (by decide) d_law_896 d_law_897 d_law_898 d_law_899 d_law_900 ?_
  refine la_c (j := 2) hx hb hX hbl hJ.2.2 hi hl rfl rfl (by decide) (by decide) d_law_901 d_law_902 d_law_903 d_law_904 d_law_905 ?_
  refine la_c (j := 3) hx hb hX hbl hJ.2.2 hi hl rfl rfl (by decide) (by decide) d_law_906 d_law_907 d_law_908 d_law_909 d_law_910 ?_
  have hm2 := c_Mo_sheet l D cT ad Im Jm am gz (xs (i + 1)) (xs (i + 2)) (xs (i + 3))
  refine jw_mm (np := 3) hC hK hJ hAd hm2 rfl ⟨wl_La_98, wi_Mo_sheet, ws_Mo_sheet, wc_Mo_sheet, wn_Mo⟩ ⟨by decide, by decide, by decide +kernel⟩ ⟨Nat.le_of_ble_eq_true rfl, Nat.le_of_ble_eq_true rfl⟩ hl.1 rfl (rest := [.int r1]) rfl (Nat.le_of_ble_eq_true rfl) ⟨by show _ ≤ 600000; omega, by show _ ≤ 7302250; omega⟩ d_law_911 (fun r2 I2 J2 a2 g2 H locs hp2 hJ => ?_)
  obtain ⟨he, hLI⟩ := e_sheet hCI hRI hp1 hp2
  refine lv_icmp_eq (tgt := 1048) hx hb d_law_914 (by decide) (fun _ => ?_) (fun z => absurd he z)
  refine W.widen (k := cells + 111) (n := slots + 884) (by omega) (by omega) ?_
  exact kk X I1 a1 I2 J2 a2 g2 _ _ hJ hLI rfl

set_option maxHeartbeats 1000000 in
set_option maxRecDepth 100000 in
theorem op_lay  (hC : CallFix p m c code 4 s #[Value.ref b] GW R_La) (hK : KE D cT s) (hX : va_X b L xs s s.heap) (hbl : b < s.heap.size) (hZ : SE adK adV s.heap.size s) (hAd : AdOk ad) (hi : i + 9 ≤ L ∧ L ≤ 4608) (hcc : cells + 111 ≤ 600000 ∧ slots + 884 ≤ 7302250) (hJ : NM D (fun q => s.heap.size ≤ q) (cw cT X I a ++ mw cT ad Im Jm am gz) s.heap H locs) (hLI : LI X I a Im am) (hl : lv_has ls 4 [(0, .ref b), (1, .ref (X.1 0)), (2, .ref (ad 46)), (3, .int (nI i))])
    (kk : ∀ (X' : CX) (I' : Nat → Int32) (a' : Nat → Nat → Int32) (Im' : Nat → Int32) (Jm' : Nat → Int64) (am' : Nat → Nat → Int32) (gz' : Nat → Nat → Int64) (H' : Heap) (locs' : List Loc), NM D (fun q => s.heap.size ≤ q) (cw cT X' I' a' ++ mw cT ad Im' Jm' am' gz') s.heap H' locs' → LI X' I' a' Im' am' → X'.1 0 = X.1 0 → W p l e room_1 s m #[Value.ref b] below meth c H' locs' (cells + 111) (slots + 884) Q (F0 m 1048 ls [])) : W p l e room_1 s m #[Value.ref b] below meth c H locs cells slots Q (F0 m 919 ls []) := by
  have hx := hC.1
  have hb := hC.2.1
  obtain ⟨nb, T, tl, tb, ft, la, szz, ce, hCI, hRI⟩ := hLI
  have hn8 := hCI.1.2.2.1
  refine lv_aload_n hx hb d_law_919 rfl (lv_at hl 1 rfl) ?_
  refine la_c (j := 1) hx hb hX hbl hJ.2.2 hi hl rfl rfl (by decide) (by decide) d_law_920 d_law_921 d_law_922 d_law_923 d_law_924 ?_
  refine la_c (j := 2) hx hb hX hbl hJ.2.2 hi hl rfl rfl (by decide) (by decide) d_law_925 d_law_926 d_law_927 d_law_928 d_law_929 ?_
  refine la_c (j := 3) hx hb hX hbl hJ.2.2 hi hl rfl rfl (by decide) (by decide) d_law_930 d_law_931 d_law_932 d_law_933 d_law_934 ?_
  have hm := k_So_lay l D cT X I a (xs (i + 1)) (xs (i + 2)) (xs (i + 3)) nb T tl tb ft la szz ce hCI
  refine jw_cm (np := 3) hC hK hJ hm rfl ⟨wl_La_99, wi_So_lay, ws_So_lay, wc_So_lay, wn_So⟩ ⟨by decide, by decide, by decide +kernel⟩ ⟨Nat.le_of_ble_eq_true rfl, Nat.le_of_ble_eq_true rfl⟩ hl.1 rfl (rest := []) rfl (Nat.le_of_ble_eq_true rfl) ⟨by show cells ≤ 600000; omega, by show slots ≤ 7302250; omega⟩ d_law_935 (fun r1 I1 a1 H locs hp1 hJ => ?_)
  refine lv_aload_n hx hb d_law_938 rfl (lv_at hl 2 rfl) ?_
  refine la_c (j := 1) hx hb hX hbl hJ.2.2 hi hl rfl rfl (by decide) (by decide) d_law_939 d_law_940 d_law_941 d_law_942 d_law_943 ?_
  refine la_c (j := 2) hx hb hX hbl hJ.2.2 hi hl rfl rfl (by decide) (by decide) d_law_944 d_law_945 d_law_946 d_law_947 d_law_948 ?_
  refine la_c (j := 3) hx hb hX hbl hJ.2.2 hi hl rfl rfl (by decide) (by decide) d_law_949 d_law_950 d_law_951 d_law_952 d_law_953 ?_
  have hm2 := c_Mo_lay l D cT ad Im Jm am gz (xs (i + 1)) (xs (i + 2)) (xs (i + 3)) (hlen_of hCI hRI)
  refine jw_mm (np := 3) hC hK hJ hAd hm2 rfl ⟨wl_La_102, wi_Mo_lay, ws_Mo_lay, wc_Mo_lay, wn_Mo⟩ ⟨by decide, by decide, by decide +kernel⟩ ⟨Nat.le_of_ble_eq_true rfl, Nat.le_of_ble_eq_true rfl⟩ hl.1 rfl (rest := [.int r1]) rfl (Nat.le_of_ble_eq_true rfl) ⟨by show _ ≤ 600000; omega, by show _ ≤ 7302250; omega⟩ d_law_954 (fun r2 I2 J2 a2 g2 H locs hp2 hJ => ?_)
  obtain ⟨he, hLI⟩ := e_lay hCI hRI hp1 hp2
  refine lv_icmp_eq (tgt := 1048) hx hb d_law_957 (by decide) (fun _ => ?_) (fun z => absurd he z)
  refine W.widen (k := cells + 111) (n := slots + 884) (by omega) (by omega) ?_
  exact kk X I1 a1 I2 J2 a2 g2 _ _ hJ hLI rfl

set_option maxHeartbeats 1000000 in
set_option maxRecDepth 100000 in
theorem op_scan  (hC : CallFix p m c code 4 s #[Value.ref b] GW R_La) (hK : KE D cT s) (hX : va_X b L xs s s.heap) (hbl : b < s.heap.size) (hZ : SE adK adV s.heap.size s) (hAd : AdOk ad) (hi : i + 9 ≤ L ∧ L ≤ 4608) (hcc : cells + 111 ≤ 600000 ∧ slots + 884 ≤ 7302250) (hJ : NM D (fun q => s.heap.size ≤ q) (cw cT X I a ++ mw cT ad Im Jm am gz) s.heap H locs) (hLI : LI X I a Im am) (hl : lv_has ls 4 [(0, .ref b), (1, .ref (X.1 0)), (2, .ref (ad 46)), (3, .int (nI i))])
    (kk : ∀ (X' : CX) (I' : Nat → Int32) (a' : Nat → Nat → Int32) (Im' : Nat → Int32) (Jm' : Nat → Int64) (am' : Nat → Nat → Int32) (gz' : Nat → Nat → Int64) (H' : Heap) (locs' : List Loc), NM D (fun q => s.heap.size ≤ q) (cw cT X' I' a' ++ mw cT ad Im' Jm' am' gz') s.heap H' locs' → LI X' I' a' Im' am' → X'.1 0 = X.1 0 → W p l e room_1 s m #[Value.ref b] below meth c H' locs' (cells + 111) (slots + 884) Q (F0 m 1048 ls [])) : W p l e room_1 s m #[Value.ref b] below meth c H locs cells slots Q (F0 m 962 ls []) := by
  have hx := hC.1
  have hb := hC.2.1
  obtain ⟨nb, T, tl, tb, ft, la, szz, ce, hCI, hRI⟩ := hLI
  have hn8 := hCI.1.2.2.1
  refine lv_aload_n hx hb d_law_962 rfl (lv_at hl 1 rfl) ?_
  refine la_c (j := 1) hx hb hX hbl hJ.2.2 hi hl rfl rfl (by decide) (by decide) d_law_963 d_law_964 d_law_965 d_law_966 d_law_967 ?_
  refine la_c (j := 2) hx hb hX hbl hJ.2.2 hi hl rfl rfl (by decide) (by decide) d_law_968 d_law_969 d_law_970 d_law_971 d_law_972 ?_
  refine la_c (j := 3) hx hb hX hbl hJ.2.2 hi hl rfl rfl (by decide) (by decide) d_law_973 d_law_974 d_law_975 d_law_976 d_law_977 ?_
  refine la_c (j := 4) hx hb hX hbl hJ.2.2 hi hl rfl rfl (by decide) (by decide) d_law_978 d_law_979 d_law_980 d_law_981 d_law_982 ?_
  refine la_c (j := 5) hx hb hX hbl hJ.2.2 hi hl rfl rfl (by decide) (by decide) d_law_983 d_law_984 d_law_985 d_law_986 d_law_987 ?_
  have hm := k_So_scan l D cT X I a (xs (i + 1)) (xs (i + 2)) (xs (i + 3)) (xs (i + 4)) (xs (i + 5)) nb T tl tb ft la szz ce hCI
  refine jw_rd (np := 5) hC hK hJ hm rfl ⟨wl_La_103, wi_So_scan, ws_So_scan, wc_So_scan, wn_So⟩ ⟨by decide, by decide, by decide +kernel⟩ ⟨Nat.le_of_ble_eq_true rfl, Nat.le_of_ble_eq_true rfl⟩ hl.1 rfl (rest := []) rfl (Nat.le_of_ble_eq_true rfl) ⟨by show cells ≤ 600000; omega, by show slots ≤ 7302250; omega⟩ d_law_988 (fun r1 hp1 => ?_)
  refine lv_aload_n hx hb d_law_991 rfl (lv_at hl 2 rfl) ?_
  refine la_c (j := 1) hx hb hX hbl hJ.2.2 hi hl rfl rfl (by decide) (by decide) d_law_992 d_law_993 d_law_994 d_law_995 d_law_996 ?_
  refine la_c (j := 2) hx hb hX hbl hJ.2.2 hi hl rfl rfl (by decide) (by decide) d_law_997 d_law_998 d_law_999 d_law_1000 d_law_1001 ?_
  refine la_c (j := 3) hx hb hX hbl hJ.2.2 hi hl rfl rfl (by decide) (by decide) d_law_1002 d_law_1003 d_law_1004 d_law_1005 d_law_1006 ?_
  refine la_c (j := 4) hx hb hX hbl hJ.2.2 hi hl rfl rfl (by decide) (by decide) d_law_1007 d_law_1008 d_law_1009 d_law_1010 d_law_1011 ?_
  refine la_c (j := 5) hx hb hX hbl hJ.2.2 hi hl rfl rfl (by decide) (by decide) d_law_1012 d_law_1013 d_law_1014 d_law_1015 d_law_1016 ?_
  have hm2 := c_Mo_scan l D cT ad Im Jm am gz (xs (i + 1)) (xs (i + 2)) (xs (i + 3)) (xs (i + 4)) (xs (i + 5)) nb T hRI.1 hn8 hRI.2.1 (hlen_of hCI hRI)
  refine jw_mm (np := 5) hC hK hJ hAd hm2 rfl ⟨wl_La_107, wi_Mo_scan, ws_Mo_scan, wc_Mo_scan, wn_Mo⟩ ⟨by decide, by decide, by decide +kernel⟩ ⟨Nat.le_of_ble_eq_true rfl, Nat.le_of_ble_eq_true rfl⟩ hl.1 rfl (rest := [.int r1]) rfl (Nat.le_of_ble_eq_true rfl) ⟨by show _ ≤ 600000; omega, by show _ ≤ 7302250; omega⟩ d_law_1017 (fun r2 I2 J2 a2 g2 H locs hp2 hJ => ?_)
  have he : r1 = r2 := e_scan hCI hRI hp1.1 hp1.2 hp2.2
  refine lv_icmp_eq (tgt := 1048) hx hb d_law_1020 (by decide) (fun _ => ?_) (fun z => absurd he z)
  refine W.widen (k := cells + 111) (n := slots + 884) (by omega) (by omega) ?_
  exact kk X I a I2 J2 a2 g2 _ _ hJ ⟨nb, T, tl, tb, ft, la, szz, ce, hCI, RI_sp hRI hp2.1⟩ rfl

set_option maxHeartbeats 1000000 in
set_option maxRecDepth 100000 in
theorem op_count  (hC : CallFix p m c code 4 s #[Value.ref b] GW R_La) (hK : KE D cT s) (hX : va_X b L xs s s.heap) (hbl : b < s.heap.size) (hZ : SE adK adV s.heap.size s) (hAd : AdOk ad) (hi : i + 9 ≤ L ∧ L ≤ 4608) (hcc : cells + 111 ≤ 600000 ∧ slots + 884 ≤ 7302250) (hJ : NM D (fun q => s.heap.size ≤ q) (cw cT X I a ++ mw cT ad Im Jm am gz) s.heap H locs) (hLI : LI X I a Im am) (hl : lv_has ls 4 [(0, .ref b), (1, .ref (X.1 0)), (2, .ref (ad 46)), (3, .int (nI i))])
    (kk : ∀ (X' : CX) (I' : Nat → Int32) (a' : Nat → Nat → Int32) (Im' : Nat → Int32) (Jm' : Nat → Int64) (am' : Nat → Nat → Int32) (gz' : Nat → Nat → Int64) (H' : Heap) (locs' : List Loc), NM D (fun q => s.heap.size ≤ q) (cw cT X' I' a' ++ mw cT ad Im' Jm' am' gz') s.heap H' locs' → LI X' I' a' Im' am' → X'.1 0 = X.1 0 → W p l e room_1 s m #[Value.ref b] below meth c H' locs' (cells + 111) (slots + 884) Q (F0 m 1048 ls [])) : W p l e room_1 s m #[Value.ref b] below meth c H locs cells slots Q (F0 m 1025 ls []) := by
  have hx := hC.1
  have hb := hC.2.1
  obtain ⟨nb, T, tl, tb, ft, la, szz, ce, hCI, hRI⟩ := hLI
  have hn8 := hCI.1.2.2.1
  refine lv_aload_n hx hb d_law_1025 rfl (lv_at hl 1 rfl) ?_
  refine la_c (j := 1) hx hb hX hbl hJ.2.2 hi hl rfl rfl (by decide) (by decide) d_law_1026 d_law_1027 d_law_1028 d_law_1029 d_law_1030 ?_
  have hm := k_So_count l D cT X I a (xs (i + 1)) nb T tl tb ft la szz ce hCI
  refine jw_rd (np := 1) hC hK hJ hm rfl ⟨wl_La_108, wi_So_count, ws_So_count, wc_So_count, wn_So⟩ ⟨by decide, by decide, by decide +kernel⟩ ⟨Nat.le_of_ble_eq_true rfl, Nat.le_of_ble_eq_true rfl⟩ hl.1 rfl (rest := []) rfl (Nat.le_of_ble_eq_true rfl) ⟨by show cells ≤ 600000; omega, by show slots ≤ 7302250; omega⟩ d_law_1031 (fun r1 hp1 => ?_)
  refine lv_aload_n hx hb d_law_1034 rfl (lv_at hl 2 rfl) ?_
  refine la_c (j := 1) hx hb hX hbl hJ.2.2 hi hl rfl rfl (by decide) (by decide) d_law_1035 d_law_1036 d_law_1037 d_law_1038 d_law_1039 ?_
  have hm2 := c_Mo_count l D cT ad Im Jm am gz (xs (i + 1)) nb hRI.1 hn8
  refine jw_mr (np := 1) hC hK hJ hm2 rfl ⟨wl_La_111, wi_Mo_count, ws_Mo_count, wc_Mo_count, wn_Mo⟩ ⟨by decide, by decide, by decide +kernel⟩ ⟨Nat.le_of_ble_eq_true rfl, Nat.le_of_ble_eq_true rfl⟩ hl.1 rfl (rest := [.int r1]) rfl (Nat.le_of_ble_eq_true rfl) ⟨by show _ ≤ 600000; omega, by show _ ≤ 7302250; omega⟩ d_law_1040 (fun r2 hp2 => ?_)
  have he : r1 = r2 := e_count hCI hRI hp1 hp2
  refine lv_icmp_eq (tgt := 1048) hx hb d_law_1043 (by decide) (fun _ => ?_) (fun z => absurd he z)
  refine W.widen (k := cells + 111) (n := slots + 884) (by omega) (by omega) ?_
  exact kk X I a Im Jm am gz _ _ hJ ⟨nb, T, tl, tb, ft, la, szz, ce, hCI, hRI⟩ rfl

end LAW
