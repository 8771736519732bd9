/-! numbers: an int as a whole number (iI), as a natural one (nI), a long as a whole number (iL); truth as 0 and 1 (bI) -/
def iI (z : Int) : Int32 := Int32.ofInt z
def iL (z : Int) : Int64 := Int64.ofInt z
theorem iI_of (x : Int32) : x = iI x.toInt := (Int32.ofInt_toInt x).symm
theorem iL_of (x : Int64) : x = iL x.toInt := (Int64.ofInt_toInt x).symm
theorem iI_add (a b : Int) : iI a + iI b = iI (a + b) := (Int32.ofInt_add a b).symm
theorem iI_sub (a b : Int) : iI a - iI b = iI (a - b) := (Int32.ofInt_sub a b).symm
theorem iI_mul (a b : Int) : iI a * iI b = iI (a * b) := (Int32.ofInt_mul a b).symm
theorem iI_neg (a : Int) : -iI a = iI (-a) := (Int32.ofInt_neg a).symm
theorem iL_add (a b : Int) : iL a + iL b = iL (a + b) := (Int64.ofInt_add a b).symm
theorem iL_sub (a b : Int) : iL a - iL b = iL (a - b) := (Int64.ofInt_sub a b).symm
theorem iL_mul (a b : Int) : iL a * iL b = iL (a * b) := (Int64.ofInt_mul a b).symm
theorem iL_neg (a : Int) : -iL a = iL (-a) := (Int64.ofInt_neg a).symm
theorem iI_toInt {z : Int} (h1 : -2147483648 ≤ z) (h2 : z < 2147483648) : (iI z).toInt = z := by
  unfold iI
  rw [Int32.toInt_ofInt]
  have e : (Int32.size : Int) = 4294967296 := rfl
  rw [Int.bmod_eq_of_le]
  · omega
  · omega
theorem iL_toInt {z : Int} (h1 : -9223372036854775808 ≤ z) (h2 : z < 9223372036854775808) : (iL z).toInt = z := by
  unfold iL
  rw [Int64.toInt_ofInt]
  have e : (Int64.size : Int) = 18446744073709551616 := rfl
  rw [Int.bmod_eq_of_le]
  · omega
  · omega
theorem nI_iI (n : Nat) : nI n = iI n := rfl
theorem iI_lit (n : Nat) : (OfNat.ofNat n : Int32) = iI (OfNat.ofNat n : Int) := rfl
theorem iL_lit (n : Nat) : (OfNat.ofNat n : Int64) = iL (OfNat.ofNat n : Int) := rfl
theorem nI_lit (n : Nat) : (OfNat.ofNat n : Int32) = nI n := rfl
theorem iI_lt {a b : Int} (h1 : -2147483648 ≤ a) (h2 : a < 2147483648) (h3 : -2147483648 ≤ b) (h4 : b < 2147483648) : iI a < iI b ↔ a < b := by
  rw [Int32.lt_iff_toInt_lt, iI_toInt h1 h2, iI_toInt h3 h4]
theorem iI_eq {a b : Int} (h1 : -2147483648 ≤ a) (h2 : a < 2147483648) (h3 : -2147483648 ≤ b) (h4 : b < 2147483648) : iI a = iI b ↔ a = b := by
  rw [← Int32.toInt_inj, iI_toInt h1 h2, iI_toInt h3 h4]
theorem iL_lt {a b : Int} (h1 : -9223372036854775808 ≤ a) (h2 : a < 9223372036854775808) (h3 : -9223372036854775808 ≤ b) (h4 : b < 9223372036854775808) : iL a < iL b ↔ a < b := by
  rw [Int64.lt_iff_toInt_lt, iL_toInt h1 h2, iL_toInt h3 h4]
theorem iL_eq {a b : Int} (h1 : -9223372036854775808 ≤ a) (h2 : a < 9223372036854775808) (h3 : -9223372036854775808 ≤ b) (h4 : b < 9223372036854775808) : iL a = iL b ↔ a = b := by
  rw [← Int64.toInt_inj, iL_toInt h1 h2, iL_toInt h3 h4]
theorem iI_l {z : Int} (h1 : -2147483648 ≤ z) (h2 : z < 2147483648) : (iI z).toInt64 = iL z := by
  rw [← Int64.toInt_inj, Int32.toInt_toInt64, iI_toInt h1 h2, iL_toInt (by omega) (by omega)]
theorem x_l (x : Int32) : x.toInt64 = iL x.toInt := by
  have h1 := Int32.le_toInt x
  have h2 := Int32.toInt_lt x
  rw [← Int64.toInt_inj, Int32.toInt_toInt64, iL_toInt (by omega) (by omega)]
theorem iL_i {z : Int} (h1 : -2147483648 ≤ z) (h2 : z < 2147483648) : (iL z).toInt32 = iI z := by
  rw [← iI_l h1 h2]
  exact Int32.toInt32_toInt64 _
theorem x_rng (x : Int32) : -2147483648 ≤ x.toInt ∧ x.toInt < 2147483648 := ⟨Int32.le_toInt x, Int32.toInt_lt x⟩
theorem iI_cl {z : Int} (h1 : 0 ≤ z) (h2 : z < 2147483648) : (iI z).toNatClampNeg = z.toNat := by
  unfold Int32.toNatClampNeg
  rw [iI_toInt (by omega) h2]
theorem in_iI {z : Int} {n : Nat} (h1 : 0 ≤ z) (h2 : z < n) (hn : n < 2147483648) : vp_in (iI z) n := by
  rw [vp_in_iff, iI_toInt (by omega) (by omega)]
  exact ⟨h1, h2⟩
/-- truth as the machine has it -/
def bI (p : Prop) [Decidable p] : Int32 := if p then 1 else 0
theorem bI_t {p : Prop} [Decidable p] (h : p) : bI p = 1 := if_pos h
theorem bI_f {p : Prop} [Decidable p] (h : ¬ p) : bI p = 0 := if_neg h
theorem bI_0 {p : Prop} [Decidable p] : bI p = 0 ↔ ¬ p := by
  by_cases h : p
  · rw [bI_t h]; exact ⟨fun e => absurd e (by decide), fun e => absurd h e⟩
  · rw [bI_f h]; exact ⟨fun _ => h, fun _ => rfl⟩
theorem bI_01 {p : Prop} [Decidable p] : bI p = 0 ∨ bI p = 1 := by
  by_cases h : p
  · exact Or.inr (bI_t h)
  · exact Or.inl (bI_f h)
theorem bI_c {p q : Prop} [Decidable p] [Decidable q] (h : p ↔ q) : bI p = bI q := by
  by_cases hp : p
  · rw [bI_t hp, bI_t (h.mp hp)]
  · rw [bI_f hp, bI_f (fun z => hp (h.mpr z))]
theorem nI_clN {n : Nat} (h : n < 2147483648) : (nI n).toNatClampNeg = n := nI_clamp h
theorem nI_sb {a b : Nat} (h : b ≤ a) : nI a - nI b = nI (a - b) := pk_sub h
section NB
variable {p : Program} {l : Launch} {e : Env} {RM : Room} {s : State} {m : MethodId} {args : Array Value} {below : List Frame} {meth : Method} {c : Code} {H H0 : Heap} {locs : List Loc} {cells slots : Nat} {Q : State → Prop} {cc : ByteArray} {pc nL : Nat} {ls : Array Slot} {rest : List Value}
variable {D : va_G} {cT : Nat → ClassId} {ad : Nat → Nat} {I : Nat → Int32} {J : Nat → Int64} {a : Nat → Nat → Int32} {g : Nat → Nat → Int64}
theorem bz_eq (hx : p.tables.exec = Jvm.exec) (hb : c.code = cc) {P : Prop} {dP : Decidable P} {off : Int} {tgt : Nat} (hdg : decode cc pc = .ok (.ifCond .eq off, 3)) (ht : (pc : Int) + off = (tgt : Int))
    (kt : ¬ P → W p l e RM s m args below meth c H locs cells slots Q (F0 m tgt ls rest)) (kf : P → W p l e RM s m args below meth c H locs cells slots Q (F0 m (pc + 3) ls rest)) : W p l e RM s m args below meth c H locs cells slots Q (F0 m pc ls (.int (@bI P dP) :: rest)) :=
  lv_if_eq hx hb hdg ht (fun h => kt (bI_0.mp h)) (fun h => kf (Decidable.not_not.mp fun z => h (bI_0.mpr z)))
theorem bz_ne (hx : p.tables.exec = Jvm.exec) (hb : c.code = cc) {P : Prop} {dP : Decidable P} {off : Int} {tgt : Nat} (hdg : decode cc pc = .ok (.ifCond .ne off, 3)) (ht : (pc : Int) + off = (tgt : Int))
    (kt : P → W p l e RM s m args below meth c H locs cells slots Q (F0 m tgt ls rest)) (kf : ¬ P → W p l e RM s m args below meth c H locs cells slots Q (F0 m (pc + 3) ls rest)) : W p l e RM s m args below meth c H locs cells slots Q (F0 m pc ls (.int (@bI P dP) :: rest)) :=
  lv_if_ne hx hb hdg ht (fun h => kt (Decidable.not_not.mp fun z => h (bI_0.mpr z))) (fun h => kf (bI_0.mp h))
-- array rows by a natural place
theorem mo_ialdN (hC : CallFix p m c cc nL s args GW R_Mo) (hK : KE D cT s) (hM : MO D cT ad I J a g H0 H locs) (k j : Nat) (ha : k ∈ mArr) (hk : mKind k = 2) {n : Nat} (hn : mLen k = n) (hn2 : n ≤ 12288) {i : Int32} (hj : i = nI j) (hlt : j < n) {v : Int32} (hv : a k j = v) (hdg : decode cc pc = .ok (.iaload, 1))
    (kk : W p l e RM s m args below meth c H locs cells slots Q (F0 m (pc + 1) ls (.int v :: rest))) : W p l e RM s m args below meth c H locs cells slots Q (F0 m pc ls (.int i :: .ref (ad k) :: rest)) := by
  subst hj
  exact mo_iald hC hK hM k ha hk hn (vp_in_nI hlt (by omega)) (by rw [nI_clN (by omega)]; exact hv) hdg kk
theorem mo_zaldN (hC : CallFix p m c cc nL s args GW R_Mo) (hK : KE D cT s) (hM : MO D cT ad I J a g H0 H locs) (k j : Nat) (ha : k ∈ mArr) (hk : mKind k = 4) {n : Nat} (hn : mLen k = n) (hn2 : n ≤ 12288) {i : Int32} (hj : i = nI j) (hlt : j < n) {v : Int32} (hv : a k j = v) (hdg : decode cc pc = .ok (.baload, 1))
    (kk : W p l e RM s m args below meth c H locs cells slots Q (F0 m (pc + 1) ls (.int v :: rest))) : W p l e RM s m args below meth c H locs cells slots Q (F0 m pc ls (.int i :: .ref (ad k) :: rest)) := by
  subst hj
  exact mo_zald hC hK hM k ha hk hn (vp_in_nI hlt (by omega)) (by rw [nI_clN (by omega)]; exact hv) hdg kk
theorem mo_laldN (hC : CallFix p m c cc nL s args GW R_Mo) (hK : KE D cT s) (hM : MO D cT ad I J a g H0 H locs) (k j : Nat) (ha : k ∈ mArr) (hk : mKind k = 3) {n : Nat} (hn : mLen k = n) (hn2 : n ≤ 12288) {i : Int32} (hj : i = nI j) (hlt : j < n) {v : Int64} (hv : g k j = v) (hdg : decode cc pc = .ok (.laload, 1))
    (kk : W p l e RM s m args below meth c H locs cells slots Q (F0 m (pc + 1) ls (.long v :: rest))) : W p l e RM s m args below meth c H locs cells slots Q (F0 m pc ls (.int i :: .ref (ad k) :: rest)) := by
  subst hj
  exact mo_lald hC hK hM k ha hk hn (vp_in_nI hlt (by omega)) (by rw [nI_clN (by omega)]; exact hv) hdg kk
theorem mo_iastN (hC : CallFix p m c cc nL s args GW R_Mo) (hK : KE D cT s) (hM : MO D cT ad I J a g H0 H locs) (k j : Nat) (ha : k ∈ mArr) (hk : mKind k = 2) {n : Nat} (hn : mLen k = n) (hn2 : n ≤ 12288) {i x : Int32} (hj : i = nI j) (hlt : j < n) (hdg : decode cc pc = .ok (.iastore, 1))
    (kk : ∀ (H1 : Heap) (locs1 : List Loc), MO D cT ad I J (va_up a k (upd (a k) j x)) g H0 H1 locs1 → W p l e RM s m args below meth c H1 locs1 cells slots Q (F0 m (pc + 1) ls rest)) : W p l e RM s m args below meth c H locs cells slots Q (F0 m pc ls (.int x :: .int i :: .ref (ad k) :: rest)) := by
  subst hj
  refine mo_iast hC hK hM k ha hk hn (vp_in_nI hlt (by omega)) hdg ?_
  rw [nI_clN (by omega)]
  exact kk
theorem mo_zastN (hC : CallFix p m c cc nL s args GW R_Mo) (hK : KE D cT s) (hM : MO D cT ad I J a g H0 H locs) (k j : Nat) (ha : k ∈ mArr) (hk : mKind k = 4) {n : Nat} (hn : mLen k = n) (hn2 : n ≤ 12288) {i x : Int32} (hj : i = nI j) (hlt : j < n) (hz : x = 0 ∨ x = 1) (hdg : decode cc pc = .ok (.bastore, 1))
    (kk : ∀ (H1 : Heap) (locs1 : List Loc), MO D cT ad I J (va_up a k (upd (a k) j x)) g H0 H1 locs1 → W p l e RM s m args below meth c H1 locs1 cells slots Q (F0 m (pc + 1) ls rest)) : W p l e RM s m args below meth c H locs cells slots Q (F0 m pc ls (.int x :: .int i :: .ref (ad k) :: rest)) := by
  subst hj
  refine mo_zast hC hK hM k ha hk hn (vp_in_nI hlt (by omega)) hz hdg ?_
  rw [nI_clN (by omega)]
  exact kk
theorem mo_lastN (hC : CallFix p m c cc nL s args GW R_Mo) (hK : KE D cT s) (hM : MO D cT ad I J a g H0 H locs) (k j : Nat) (ha : k ∈ mArr) (hk : mKind k = 3) {n : Nat} (hn : mLen k = n) (hn2 : n ≤ 12288) {i : Int32} {x : Int64} (hj : i = nI j) (hlt : j < n) (hdg : decode cc pc = .ok (.lastore, 1))
    (kk : ∀ (H1 : Heap) (locs1 : List Loc), MO D cT ad I J a (va_up g k (vp_updL (g k) j x)) H0 H1 locs1 → W p l e RM s m args below meth c H1 locs1 cells slots Q (F0 m (pc + 1) ls rest)) : W p l e RM s m args below meth c H locs cells slots Q (F0 m pc ls (.long x :: .int i :: .ref (ad k) :: rest)) := by
  subst hj
  refine mo_last hC hK hM k ha hk hn (vp_in_nI hlt (by omega)) hdg ?_
  rw [nI_clN (by omega)]
  exact kk
end NB
