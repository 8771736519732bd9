/-! numbers: an int as a whole number (iI), as a natural one (nI), a long as a whole number (iL); truth as 0 and 1 (bI) -/
def iI (z : Int) : Int32 := Int32.ofInt z
def iL (z : Int) : Int64 := Int64.ofInt z
theorem iI_of (x : Int32) : x = iI x.toInt := (Int32.ofInt_toInt x).symm
theorem iL_of (x : Int64) : x = iL x.toInt := (Int64.ofInt_toInt x).symm
theorem iI_add (a b : Int) : iI a + iI b = iI (a + b) := (Int32.ofInt_add a b).symm
theorem iI_sub (a b : Int) : iI a - iI b = iI (a - b) := (Int32.ofInt_sub a b).symm
theorem iI_mul (a b : Int) : iI a * iI b = iI (a * b) := (Int32.ofInt_mul a b).symm
theorem iI_neg (a : Int) : -iI a = iI (-a) := (Int32.ofInt_neg a).symm
theorem iL_add (a b : Int) : iL a + iL b = iL (a + b) := (Int64.ofInt_add a b).symm
theorem iL_sub (a b : Int) : iL a - iL b = iL (a - b) := (Int64.ofInt_sub a b).symm
theorem iL_mul (a b : Int) : iL a * iL b = iL (a * b) := (Int64.ofInt_mul a b).symm
theorem iL_neg (a : Int) : -iL a = iL (-a) := (Int64.ofInt_neg a).symm
theorem iI_toInt {z : Int} (h1 : -2147483648 ≤ z) (h2 : z < 2147483648) : (iI z).toInt = z := by
  unfold iI
  rw [Int32.toInt_ofInt]
  have e : (Int32.size : Int) = 4294967296 := rfl
  rw [Int.bmod_eq_of_le]
  · omega
  · omega
theorem iL_toInt {z : Int} (h1 : -9223372036854775808 ≤ z) (h2 : z < 9223372036854775808) : (iL z).toInt = z := by
  unfold iL
  rw [Int64.toInt_ofInt]
  have e : (Int64.size : Int) = 18446744073709551616 := rfl
  rw [Int.bmod_eq_of_le]
  · omega
  · omega
theorem nI_iI (n : Nat) : nI n = iI n := rfl
theorem iI_lit (n : Nat) : (OfNat.ofNat n : Int32) = iI (OfNat.ofNat n : Int) := rfl
theorem iL_lit (n : Nat) : (OfNat.ofNat n : Int64) = iL (OfNat.ofNat n : Int) := rfl
theorem nI_lit (n : Nat) : (OfNat.ofNat n : Int32) = nI n := rfl
theorem iI_lt {a b : Int} (h1 : -2147483648 ≤ a) (h2 : a < 2147483648) (h3 : -2147483648 ≤ b) (h4 : b < 2147483648) : iI a < iI b ↔ a < b := by
  rw [Int32.lt_iff_toInt_lt, iI_toInt h1 h2, iI_toInt h3 h4]
theorem iI_eq {a b : Int} (h1 : -2147483648 ≤ a) (h2 : a < 2147483648) (h3 : -2147483648 ≤ b) (h4 : b < 2147483648) : iI a = iI b ↔ a = b := by
  rw [← Int32.toInt_inj, iI_toInt h1 h2, iI_toInt h3 h4]
theorem iL_lt {a b : Int} (h1 : -9223372036854775808 ≤ a) (h2 : a < 9223372036854775808) (h3 : -9223372036854775808 ≤ b) (h4 : b < 9223372036854775808) : iL a < iL b ↔ a < b := by
  rw [Int64.lt_iff_toInt_lt, iL_toInt h1 h2, iL_toInt h3 h4]
theorem iL_eq {a b : Int} (h1 : -9223372036854775808 ≤ a) (h2 : a < 9223372036854775808) (h3 : -9223372036854775808 ≤ b) (h4 : b < 9223372036854775808) : iL a = iL b ↔ a = b := by
  rw [← Int64.toInt_inj, iL_toInt h1 h2, iL_toInt h3 h4]
theorem iI_l {z : Int} (h1 : -2147483648 ≤ z) (h2 : z < 2147483648) : (iI z).toInt64 = iL z := by
  rw [← Int64.toInt_inj, Int32.toInt_toInt64, iI_toInt h1 h2, iL_toInt (by omega) (by omega)]
theorem x_l (x : Int32) : x.toInt64 = iL x.toInt := by
  have h1 := Int32.le_toInt x
  have h2 := Int32.toInt_lt x
  rw [← Int64.toInt_inj, Int32.toInt_toInt64, iL_toInt (by omega) (by omega)]
theorem iL_i {z : Int} (h1 : -2147483648 ≤ z) (h2 : z < 2147483648) : (iL z).toInt32 = iI z := by
  rw [← iI_l h1 h2]
  exact Int32.toInt32_toInt64 _
theorem x_rng (x : Int32) : -2147483648 ≤ x.toInt ∧ x.toInt < 2147483648 := ⟨Int32.le_toInt x, Int32.toInt_lt x⟩
theorem iI_cl {z : Int} (h1 : 0 ≤ z) (h2 : z < 2147483648) : (iI z).toNatClampNeg = z.toNat := by
  unfold Int32.toNatClampNeg
  rw [iI_toInt (by omega) h2]
theorem in_iI {z : Int} {n : Nat} (h1 : 0 ≤ z) (h2 : z < n) (hn : n < 2147483648) : vp_in (iI z) n := by
  rw [vp_in_iff, iI_toInt (by omega) (by omega)]
  exact ⟨h1, h2⟩
theorem iL_tx (x : Int32) : (iL x.toInt).toInt = x.toInt := by rw [← x_l, Int32.toInt_toInt64]
/-- truth as the machine has it -/
def bI (p : Prop) [Decidable p] : Int32 := if p then 1 else 0
theorem bI_t {p : Prop} [Decidable p] (h : p) : bI p = 1 := if_pos h
theorem bI_f {p : Prop} [Decidable p] (h : ¬ p) : bI p = 0 := if_neg h
theorem bI_0 {p : Prop} [Decidable p] : bI p = 0 ↔ ¬ p := by
  by_cases h : p
  · rw [bI_t h]; exact ⟨fun e => absurd e (by decide), fun e => absurd h e⟩
  · rw [bI_f h]; exact ⟨fun _ => h, fun _ => rfl⟩
theorem bI_01 {p : Prop} [Decidable p] : bI p = 0 ∨ bI p = 1 := by
  by_cases h : p
  · exact Or.inr (bI_t h)
  · exact Or.inl (bI_f h)
theorem bI_c {p q : Prop} [Decidable p] [Decidable q] (h : p ↔ q) : bI p = bI q := by
  by_cases hp : p
  · rw [bI_t hp, bI_t (h.mp hp)]
  · rw [bI_f hp, bI_f (fun z => hp (h.mpr z))]
theorem nI_clN {n : Nat} (h : n < 2147483648) : (nI n).toNatClampNeg = n := nI_clamp h
theorem nI_sb {a b : Nat} (h : b ≤ a) : nI a - nI b = nI (a - b) := pk_sub h
theorem and_m (n : Nat) (h : n < 4294967296) (k : Nat) {m : Int32} (hm : m.toBitVec.toNat = 2 ^ k - 1) : nI n &&& m = nI (n % 2 ^ k) := pk_andN h k hm
theorem upd_upd (f : Nat → Int32) (k : Nat) (x y : Int32) : upd (upd f k x) k y = upd f k y := by
  funext j
  unfold upd
  by_cases h : j = k <;> simp [h]
theorem updL_updL (f : Nat → Int64) (k : Nat) (x y : Int64) : vp_updL (vp_updL f k x) k y = vp_updL f k y := by
  funext j
  unfold vp_updL
  by_cases h : j = k <;> simp [h]
theorem up_swap {α : Type} {f : Nat → α} {i j : Nat} {x y : α} (h : i ≠ j) : va_up (va_up f i x) j y = va_up (va_up f j y) i x := by
  funext q
  unfold va_up
  by_cases h1 : q = i
  · subst h1; simp [h]
  · by_cases h2 : q = j
    · subst h2; simp [h1]
    · simp [h1, h2]
theorem upd_swap {f : Nat → Int32} {i j : Nat} {x y : Int32} (h : i ≠ j) : upd (upd f i x) j y = upd (upd f j y) i x := by
  funext q
  unfold upd
  by_cases h1 : q = i
  · subst h1; simp [h]
  · by_cases h2 : q = j
    · subst h2; simp [h1]
    · simp [h1, h2]
theorem updL_swap {f : Nat → Int64} {i j : Nat} {x y : Int64} (h : i ≠ j) : vp_updL (vp_updL f i x) j y = vp_updL (vp_updL f j y) i x := by
  funext q
  unfold vp_updL
  by_cases h1 : q = i
  · subst h1; simp [h]
  · by_cases h2 : q = j
    · subst h2; simp [h1]
    · simp [h1, h2]
theorem ex_nI {x : Int32} {n : Nat} (h1 : 0 ≤ x.toInt) (h2 : x.toInt ≤ n) : ∃ q : Nat, q ≤ n ∧ x = nI q ∧ x.toInt = q := by
  have h3 := x_rng x
  refine ⟨x.toInt.toNat, by omega, ?_, by omega⟩
  rw [← Int32.toInt_inj, nI_toInt (by omega)]
  omega
theorem nI_tI {n : Nat} (h : n < 2147483648) : (nI n).toInt = (n : Int) := nI_toInt h
/-- a stretch of noughts -/
def zr (f : Nat → Int32) (s n : Nat) : Nat → Int32 := fun j => if s ≤ j ∧ j < s + n then 0 else f j
theorem zr_0 (f : Nat → Int32) (s : Nat) : zr f s 0 = f := by
  funext j
  unfold zr
  rw [if_neg (by omega)]
theorem zr_succ (f : Nat → Int32) (s n : Nat) : upd (zr f s n) (s + n) 0 = zr f s (n + 1) := by
  funext j
  unfold zr upd
  by_cases h : j = s + n
  · rw [if_pos h, if_pos (by omega)]
  · rw [if_neg h]
    dsimp only
    by_cases h2 : s ≤ j ∧ j < s + n
    · rw [if_pos h2, if_pos (by omega)]
    · rw [if_neg h2, if_neg (by omega)]
/-- a stretch of another row's cells -/
def pt (f g : Nat → Int32) (s n : Nat) : Nat → Int32 := fun j => if s ≤ j ∧ j < s + n then g (j - s) else f j
theorem pt_0 (f g : Nat → Int32) (s : Nat) : pt f g s 0 = f := by
  funext j
  unfold pt
  rw [if_neg (by omega)]
theorem pt_succ (f g : Nat → Int32) (s n : Nat) {x : Int32} (hx : x = g n) : upd (pt f g s n) (s + n) x = pt f g s (n + 1) := by
  funext j
  unfold pt upd
  by_cases h : j = s + n
  · rw [if_pos h, if_pos (by omega), hx]
    congr 1
    omega
  · rw [if_neg h]
    dsimp only
    by_cases h2 : s ≤ j ∧ j < s + n
    · rw [if_pos h2, if_pos (by omega)]
    · rw [if_neg h2, if_neg (by omega)]
theorem and_2 : ∀ p, p < 8 → nI p &&& 2 = nI (2 * (p / 2 % 2)) := by decide +kernel
theorem and_4 : ∀ p, p < 8 → nI p &&& 4 = nI (4 * (p / 4 % 2)) := by decide +kernel
section NB
variable {p : Program} {l : Launch} {e : Env} {RM : Room} {s : State} {m : MethodId} {args : Array Value} {below : List Frame} {meth : Method} {c : Code} {H H0 : Heap} {locs : List Loc} {cells slots : Nat} {Q : State → Prop} {cc : ByteArray} {pc nL : Nat} {ls : Array Slot} {rest : List Value}
variable {D : va_G} {cT : Nat → ClassId} {ad : Nat → Nat} {I : Nat → Int32} {J : Nat → Int64} {a : Nat → Nat → Int32} {g : Nat → Nat → Int64}
theorem bz_eq (hx : p.tables.exec = Jvm.exec) (hb : c.code = cc) {P : Prop} {dP : Decidable P} {off : Int} {tgt : Nat} (hdg : decode cc pc = .ok (.ifCond .eq off, 3)) (ht : (pc : Int) + off = (tgt : Int))
    (kt : ¬ P → W p l e RM s m args below meth c H locs cells slots Q (F0 m tgt ls rest)) (kf : P → W p l e RM s m args below meth c H locs cells slots Q (F0 m (pc + 3) ls rest)) : W p l e RM s m args below meth c H locs cells slots Q (F0 m pc ls (.int (@bI P dP) :: rest)) :=
  lv_if_eq hx hb hdg ht (fun h => kt (bI_0.mp h)) (fun h => kf (Decidable.not_not.mp fun z => h (bI_0.mpr z)))
theorem bz_ne (hx : p.tables.exec = Jvm.exec) (hb : c.code = cc) {P : Prop} {dP : Decidable P} {off : Int} {tgt : Nat} (hdg : decode cc pc = .ok (.ifCond .ne off, 3)) (ht : (pc : Int) + off = (tgt : Int))
    (kt : P → W p l e RM s m args below meth c H locs cells slots Q (F0 m tgt ls rest)) (kf : ¬ P → W p l e RM s m args below meth c H locs cells slots Q (F0 m (pc + 3) ls rest)) : W p l e RM s m args below meth c H locs cells slots Q (F0 m pc ls (.int (@bI P dP) :: rest)) :=
  lv_if_ne hx hb hdg ht (fun h => kt (Decidable.not_not.mp fun z => h (bI_0.mpr z))) (fun h => kf (bI_0.mp h))
theorem topi_eq {x y : Int32} (h : x = y) (k : W p l e RM s m args below meth c H locs cells slots Q (F0 m pc ls (.int y :: rest))) : W p l e RM s m args below meth c H locs cells slots Q (F0 m pc ls (.int x :: rest)) := by subst h; exact k
theorem topl_eq {x y : Int64} (h : x = y) (k : W p l e RM s m args below meth c H locs cells slots Q (F0 m pc ls (.long y :: rest))) : W p l e RM s m args below meth c H locs cells slots Q (F0 m pc ls (.long x :: rest)) := by subst h; exact k
theorem lv_conv {nL : Nat} {lv lv' : List (Nat × Value)} (h : lv_has ls nL lv) (he : lv = lv') : lv_has ls nL lv' := by subst he; exact h
theorem zc_eq (hx : p.tables.exec = Jvm.exec) (hb : c.code = cc) (a b : Int) (h1 : -2147483648 ≤ a) (h2 : a < 2147483648) (h3 : -2147483648 ≤ b) (h4 : b < 2147483648) {off : Int} {tgt : Nat} (hdg : decode cc pc = .ok (.if_icmp .eq off, 3)) (ht : (pc : Int) + off = (tgt : Int))
    (kt : a = b → W p l e RM s m args below meth c H locs cells slots Q (F0 m tgt ls rest)) (kf : ¬ a = b → W p l e RM s m args below meth c H locs cells slots Q (F0 m (pc + 3) ls rest)) : W p l e RM s m args below meth c H locs cells slots Q (F0 m pc ls (.int (iI b) :: .int (iI a) :: rest)) :=
  lv_icmp_eq hx hb hdg ht (fun h => kt (by rw [← iI_eq h1 h2 h3 h4]; exact h)) (fun h => kf (by rw [← iI_eq h1 h2 h3 h4]; exact h))
theorem zz_eq (hx : p.tables.exec = Jvm.exec) (hb : c.code = cc) (a : Int) (h1 : -2147483648 ≤ a) (h2 : a < 2147483648) {off : Int} {tgt : Nat} (hdg : decode cc pc = .ok (.ifCond .eq off, 3)) (ht : (pc : Int) + off = (tgt : Int))
    (kt : a = 0 → W p l e RM s m args below meth c H locs cells slots Q (F0 m tgt ls rest)) (kf : ¬ a = 0 → W p l e RM s m args below meth c H locs cells slots Q (F0 m (pc + 3) ls rest)) : W p l e RM s m args below meth c H locs cells slots Q (F0 m pc ls (.int (iI a) :: rest)) :=
  lv_if_eq hx hb hdg ht (fun h => kt (by rw [← iI_eq (b := 0) h1 h2 (by omega) (by omega)]; exact h)) (fun h => kf (by rw [← iI_eq (b := 0) h1 h2 (by omega) (by omega)]; exact h))
theorem nc_eq (hx : p.tables.exec = Jvm.exec) (hb : c.code = cc) (a b : Nat) (h1 : a < 2147483648) (h2 : b < 2147483648) {off : Int} {tgt : Nat} (hdg : decode cc pc = .ok (.if_icmp .eq off, 3)) (ht : (pc : Int) + off = (tgt : Int))
    (kt : a = b → W p l e RM s m args below meth c H locs cells slots Q (F0 m tgt ls rest)) (kf : ¬ a = b → W p l e RM s m args below meth c H locs cells slots Q (F0 m (pc + 3) ls rest)) : W p l e RM s m args below meth c H locs cells slots Q (F0 m pc ls (.int (nI b) :: .int (nI a) :: rest)) :=
  lv_icmp_eq hx hb hdg ht (fun h => kt (by rw [← nI_eq h1 h2]; exact h)) (fun h => kf (by rw [← nI_eq h1 h2]; exact h))
theorem zl_eq (hx : p.tables.exec = Jvm.exec) (hb : c.code = cc) (a b : Int) (h1 : -9223372036854775808 ≤ a) (h2 : a < 9223372036854775808) (h3 : -9223372036854775808 ≤ b) (h4 : b < 9223372036854775808) {off : Int} {tgt : Nat} (hd1 : decode cc pc = .ok (.lcmp, 1)) (hd2 : decode cc (pc + 1) = .ok (.ifCond .eq off, 3)) (ht : ((pc + 1 : Nat) : Int) + off = (tgt : Int))
    (kt : a = b → W p l e RM s m args below meth c H locs cells slots Q (F0 m tgt ls rest)) (kf : ¬ a = b → W p l e RM s m args below meth c H locs cells slots Q (F0 m (pc + 1 + 3) ls rest)) : W p l e RM s m args below meth c H locs cells slots Q (F0 m pc ls (.long (iL b) :: .long (iL a) :: rest)) :=
  lc_eq hx hb hd1 hd2 ht (fun h => kt (by rw [← iL_eq h1 h2 h3 h4]; exact h)) (fun h => kf (by rw [← iL_eq h1 h2 h3 h4]; exact h))
theorem zc_ne (hx : p.tables.exec = Jvm.exec) (hb : c.code = cc) (a b : Int) (h1 : -2147483648 ≤ a) (h2 : a < 2147483648) (h3 : -2147483648 ≤ b) (h4 : b < 2147483648) {off : Int} {tgt : Nat} (hdg : decode cc pc = .ok (.if_icmp .ne off, 3)) (ht : (pc : Int) + off = (tgt : Int))
    (kt : ¬ a = b → W p l e RM s m args below meth c H locs cells slots Q (F0 m tgt ls rest)) (kf : a = b → W p l e RM s m args below meth c H locs cells slots Q (F0 m (pc + 3) ls rest)) : W p l e RM s m args below meth c H locs cells slots Q (F0 m pc ls (.int (iI b) :: .int (iI a) :: rest)) :=
  lv_icmp_ne hx hb hdg ht (fun h => kt (by rw [← iI_eq h1 h2 h3 h4]; exact h)) (fun h => kf (by rw [← iI_eq h1 h2 h3 h4]; exact h))
theorem zz_ne (hx : p.tables.exec = Jvm.exec) (hb : c.code = cc) (a : Int) (h1 : -2147483648 ≤ a) (h2 : a < 2147483648) {off : Int} {tgt : Nat} (hdg : decode cc pc = .ok (.ifCond .ne off, 3)) (ht : (pc : Int) + off = (tgt : Int))
    (kt : ¬ a = 0 → W p l e RM s m args below meth c H locs cells slots Q (F0 m tgt ls rest)) (kf : a = 0 → W p l e RM s m args below meth c H locs cells slots Q (F0 m (pc + 3) ls rest)) : W p l e RM s m args below meth c H locs cells slots Q (F0 m pc ls (.int (iI a) :: rest)) :=
  lv_if_ne hx hb hdg ht (fun h => kt (by rw [← iI_eq (b := 0) h1 h2 (by omega) (by omega)]; exact h)) (fun h => kf (by rw [← iI_eq (b := 0) h1 h2 (by omega) (by omega)]; exact h))
theorem nc_ne (hx : p.tables.exec = Jvm.exec) (hb : c.code = cc) (a b : Nat) (h1 : a < 2147483648) (h2 : b < 2147483648) {off : Int} {tgt : Nat} (hdg : decode cc pc = .ok (.if_icmp .ne off, 3)) (ht : (pc : Int) + off = (tgt : Int))
    (kt : ¬ a = b → W p l e RM s m args below meth c H locs cells slots Q (F0 m tgt ls rest)) (kf : a = b → W p l e RM s m args below meth c H locs cells slots Q (F0 m (pc + 3) ls rest)) : W p l e RM s m args below meth c H locs cells slots Q (F0 m pc ls (.int (nI b) :: .int (nI a) :: rest)) :=
  lv_icmp_ne hx hb hdg ht (fun h => kt (by rw [← nI_eq h1 h2]; exact h)) (fun h => kf (by rw [← nI_eq h1 h2]; exact h))
theorem zl_ne (hx : p.tables.exec = Jvm.exec) (hb : c.code = cc) (a b : Int) (h1 : -9223372036854775808 ≤ a) (h2 : a < 9223372036854775808) (h3 : -9223372036854775808 ≤ b) (h4 : b < 9223372036854775808) {off : Int} {tgt : Nat} (hd1 : decode cc pc = .ok (.lcmp, 1)) (hd2 : decode cc (pc + 1) = .ok (.ifCond .ne off, 3)) (ht : ((pc + 1 : Nat) : Int) + off = (tgt : Int))
    (kt : ¬ a = b → W p l e RM s m args below meth c H locs cells slots Q (F0 m tgt ls rest)) (kf : a = b → W p l e RM s m args below meth c H locs cells slots Q (F0 m (pc + 1 + 3) ls rest)) : W p l e RM s m args below meth c H locs cells slots Q (F0 m pc ls (.long (iL b) :: .long (iL a) :: rest)) :=
  lc_ne hx hb hd1 hd2 ht (fun h => kt (by rw [← iL_eq h1 h2 h3 h4]; exact h)) (fun h => kf (by rw [← iL_eq h1 h2 h3 h4]; exact h))
theorem zc_lt (hx : p.tables.exec = Jvm.exec) (hb : c.code = cc) (a b : Int) (h1 : -2147483648 ≤ a) (h2 : a < 2147483648) (h3 : -2147483648 ≤ b) (h4 : b < 2147483648) {off : Int} {tgt : Nat} (hdg : decode cc pc = .ok (.if_icmp .lt off, 3)) (ht : (pc : Int) + off = (tgt : Int))
    (kt : a < b → W p l e RM s m args below meth c H locs cells slots Q (F0 m tgt ls rest)) (kf : ¬ a < b → W p l e RM s m args below meth c H locs cells slots Q (F0 m (pc + 3) ls rest)) : W p l e RM s m args below meth c H locs cells slots Q (F0 m pc ls (.int (iI b) :: .int (iI a) :: rest)) :=
  lv_icmp_lt hx hb hdg ht (fun h => kt (by rw [← iI_lt h1 h2 h3 h4]; exact h)) (fun h => kf (by rw [← iI_lt h1 h2 h3 h4]; exact h))
theorem zz_lt (hx : p.tables.exec = Jvm.exec) (hb : c.code = cc) (a : Int) (h1 : -2147483648 ≤ a) (h2 : a < 2147483648) {off : Int} {tgt : Nat} (hdg : decode cc pc = .ok (.ifCond .lt off, 3)) (ht : (pc : Int) + off = (tgt : Int))
    (kt : a < 0 → W p l e RM s m args below meth c H locs cells slots Q (F0 m tgt ls rest)) (kf : ¬ a < 0 → W p l e RM s m args below meth c H locs cells slots Q (F0 m (pc + 3) ls rest)) : W p l e RM s m args below meth c H locs cells slots Q (F0 m pc ls (.int (iI a) :: rest)) :=
  lv_if_lt hx hb hdg ht (fun h => kt (by rw [← iI_lt (b := 0) h1 h2 (by omega) (by omega)]; exact h)) (fun h => kf (by rw [← iI_lt (b := 0) h1 h2 (by omega) (by omega)]; exact h))
theorem nc_lt (hx : p.tables.exec = Jvm.exec) (hb : c.code = cc) (a b : Nat) (h1 : a < 2147483648) (h2 : b < 2147483648) {off : Int} {tgt : Nat} (hdg : decode cc pc = .ok (.if_icmp .lt off, 3)) (ht : (pc : Int) + off = (tgt : Int))
    (kt : a < b → W p l e RM s m args below meth c H locs cells slots Q (F0 m tgt ls rest)) (kf : ¬ a < b → W p l e RM s m args below meth c H locs cells slots Q (F0 m (pc + 3) ls rest)) : W p l e RM s m args below meth c H locs cells slots Q (F0 m pc ls (.int (nI b) :: .int (nI a) :: rest)) :=
  lv_icmp_lt hx hb hdg ht (fun h => kt (by rw [← nI_ltI h1 h2]; exact h)) (fun h => kf (by rw [← nI_ltI h1 h2]; exact h))
theorem zl_lt (hx : p.tables.exec = Jvm.exec) (hb : c.code = cc) (a b : Int) (h1 : -9223372036854775808 ≤ a) (h2 : a < 9223372036854775808) (h3 : -9223372036854775808 ≤ b) (h4 : b < 9223372036854775808) {off : Int} {tgt : Nat} (hd1 : decode cc pc = .ok (.lcmp, 1)) (hd2 : decode cc (pc + 1) = .ok (.ifCond .lt off, 3)) (ht : ((pc + 1 : Nat) : Int) + off = (tgt : Int))
    (kt : a < b → W p l e RM s m args below meth c H locs cells slots Q (F0 m tgt ls rest)) (kf : ¬ a < b → W p l e RM s m args below meth c H locs cells slots Q (F0 m (pc + 1 + 3) ls rest)) : W p l e RM s m args below meth c H locs cells slots Q (F0 m pc ls (.long (iL b) :: .long (iL a) :: rest)) :=
  lc_lt hx hb hd1 hd2 ht (fun h => kt (by rw [← iL_lt h1 h2 h3 h4]; exact h)) (fun h => kf (by rw [← iL_lt h1 h2 h3 h4]; exact h))
theorem zc_ge (hx : p.tables.exec = Jvm.exec) (hb : c.code = cc) (a b : Int) (h1 : -2147483648 ≤ a) (h2 : a < 2147483648) (h3 : -2147483648 ≤ b) (h4 : b < 2147483648) {off : Int} {tgt : Nat} (hdg : decode cc pc = .ok (.if_icmp .ge off, 3)) (ht : (pc : Int) + off = (tgt : Int))
    (kt : ¬ a < b → W p l e RM s m args below meth c H locs cells slots Q (F0 m tgt ls rest)) (kf : a < b → W p l e RM s m args below meth c H locs cells slots Q (F0 m (pc + 3) ls rest)) : W p l e RM s m args below meth c H locs cells slots Q (F0 m pc ls (.int (iI b) :: .int (iI a) :: rest)) :=
  ic_ge hx hb hdg ht (fun h => kt (by rw [← iI_lt h1 h2 h3 h4]; exact h)) (fun h => kf (by rw [← iI_lt h1 h2 h3 h4]; exact h))
theorem zz_ge (hx : p.tables.exec = Jvm.exec) (hb : c.code = cc) (a : Int) (h1 : -2147483648 ≤ a) (h2 : a < 2147483648) {off : Int} {tgt : Nat} (hdg : decode cc pc = .ok (.ifCond .ge off, 3)) (ht : (pc : Int) + off = (tgt : Int))
    (kt : ¬ a < 0 → W p l e RM s m args below meth c H locs cells slots Q (F0 m tgt ls rest)) (kf : a < 0 → W p l e RM s m args below meth c H locs cells slots Q (F0 m (pc + 3) ls rest)) : W p l e RM s m args below meth c H locs cells slots Q (F0 m pc ls (.int (iI a) :: rest)) :=
  iz_ge hx hb hdg ht (fun h => kt (by rw [← iI_lt (b := 0) h1 h2 (by omega) (by omega)]; exact h)) (fun h => kf (by rw [← iI_lt (b := 0) h1 h2 (by omega) (by omega)]; exact h))
theorem nc_ge (hx : p.tables.exec = Jvm.exec) (hb : c.code = cc) (a b : Nat) (h1 : a < 2147483648) (h2 : b < 2147483648) {off : Int} {tgt : Nat} (hdg : decode cc pc = .ok (.if_icmp .ge off, 3)) (ht : (pc : Int) + off = (tgt : Int))
    (kt : ¬ a < b → W p l e RM s m args below meth c H locs cells slots Q (F0 m tgt ls rest)) (kf : a < b → W p l e RM s m args below meth c H locs cells slots Q (F0 m (pc + 3) ls rest)) : W p l e RM s m args below meth c H locs cells slots Q (F0 m pc ls (.int (nI b) :: .int (nI a) :: rest)) :=
  ic_ge hx hb hdg ht (fun h => kt (by rw [← nI_ltI h1 h2]; exact h)) (fun h => kf (by rw [← nI_ltI h1 h2]; exact h))
theorem zl_ge (hx : p.tables.exec = Jvm.exec) (hb : c.code = cc) (a b : Int) (h1 : -9223372036854775808 ≤ a) (h2 : a < 9223372036854775808) (h3 : -9223372036854775808 ≤ b) (h4 : b < 9223372036854775808) {off : Int} {tgt : Nat} (hd1 : decode cc pc = .ok (.lcmp, 1)) (hd2 : decode cc (pc + 1) = .ok (.ifCond .ge off, 3)) (ht : ((pc + 1 : Nat) : Int) + off = (tgt : Int))
    (kt : ¬ a < b → W p l e RM s m args below meth c H locs cells slots Q (F0 m tgt ls rest)) (kf : a < b → W p l e RM s m args below meth c H locs cells slots Q (F0 m (pc + 1 + 3) ls rest)) : W p l e RM s m args below meth c H locs cells slots Q (F0 m pc ls (.long (iL b) :: .long (iL a) :: rest)) :=
  ls_ge hx hb hd1 hd2 ht (fun h => kt (by rw [← iL_lt h1 h2 h3 h4]; exact h)) (fun h => kf (by rw [← iL_lt h1 h2 h3 h4]; exact h))
theorem zc_gt (hx : p.tables.exec = Jvm.exec) (hb : c.code = cc) (a b : Int) (h1 : -2147483648 ≤ a) (h2 : a < 2147483648) (h3 : -2147483648 ≤ b) (h4 : b < 2147483648) {off : Int} {tgt : Nat} (hdg : decode cc pc = .ok (.if_icmp .gt off, 3)) (ht : (pc : Int) + off = (tgt : Int))
    (kt : b < a → W p l e RM s m args below meth c H locs cells slots Q (F0 m tgt ls rest)) (kf : ¬ b < a → W p l e RM s m args below meth c H locs cells slots Q (F0 m (pc + 3) ls rest)) : W p l e RM s m args below meth c H locs cells slots Q (F0 m pc ls (.int (iI b) :: .int (iI a) :: rest)) :=
  lv_icmp_gt hx hb hdg ht (fun h => kt (by rw [← iI_lt h3 h4 h1 h2]; exact h)) (fun h => kf (by rw [← iI_lt h3 h4 h1 h2]; exact h))
theorem zz_gt (hx : p.tables.exec = Jvm.exec) (hb : c.code = cc) (a : Int) (h1 : -2147483648 ≤ a) (h2 : a < 2147483648) {off : Int} {tgt : Nat} (hdg : decode cc pc = .ok (.ifCond .gt off, 3)) (ht : (pc : Int) + off = (tgt : Int))
    (kt : 0 < a → W p l e RM s m args below meth c H locs cells slots Q (F0 m tgt ls rest)) (kf : ¬ 0 < a → W p l e RM s m args below meth c H locs cells slots Q (F0 m (pc + 3) ls rest)) : W p l e RM s m args below meth c H locs cells slots Q (F0 m pc ls (.int (iI a) :: rest)) :=
  lv_if_gt hx hb hdg ht (fun h => kt (by rw [← iI_lt (a := 0) (by omega) (by omega) h1 h2]; exact h)) (fun h => kf (by rw [← iI_lt (a := 0) (by omega) (by omega) h1 h2]; exact h))
theorem nc_gt (hx : p.tables.exec = Jvm.exec) (hb : c.code = cc) (a b : Nat) (h1 : a < 2147483648) (h2 : b < 2147483648) {off : Int} {tgt : Nat} (hdg : decode cc pc = .ok (.if_icmp .gt off, 3)) (ht : (pc : Int) + off = (tgt : Int))
    (kt : b < a → W p l e RM s m args below meth c H locs cells slots Q (F0 m tgt ls rest)) (kf : ¬ b < a → W p l e RM s m args below meth c H locs cells slots Q (F0 m (pc + 3) ls rest)) : W p l e RM s m args below meth c H locs cells slots Q (F0 m pc ls (.int (nI b) :: .int (nI a) :: rest)) :=
  lv_icmp_gt hx hb hdg ht (fun h => kt (by rw [← nI_ltI h2 h1]; exact h)) (fun h => kf (by rw [← nI_ltI h2 h1]; exact h))
theorem zl_gt (hx : p.tables.exec = Jvm.exec) (hb : c.code = cc) (a b : Int) (h1 : -9223372036854775808 ≤ a) (h2 : a < 9223372036854775808) (h3 : -9223372036854775808 ≤ b) (h4 : b < 9223372036854775808) {off : Int} {tgt : Nat} (hd1 : decode cc pc = .ok (.lcmp, 1)) (hd2 : decode cc (pc + 1) = .ok (.ifCond .gt off, 3)) (ht : ((pc + 1 : Nat) : Int) + off = (tgt : Int))
    (kt : b < a → W p l e RM s m args below meth c H locs cells slots Q (F0 m tgt ls rest)) (kf : ¬ b < a → W p l e RM s m args below meth c H locs cells slots Q (F0 m (pc + 1 + 3) ls rest)) : W p l e RM s m args below meth c H locs cells slots Q (F0 m pc ls (.long (iL b) :: .long (iL a) :: rest)) :=
  lc_gt hx hb hd1 hd2 ht (fun h => kt (by rw [← iL_lt h3 h4 h1 h2]; exact h)) (fun h => kf (by rw [← iL_lt h3 h4 h1 h2]; exact h))
theorem zc_le (hx : p.tables.exec = Jvm.exec) (hb : c.code = cc) (a b : Int) (h1 : -2147483648 ≤ a) (h2 : a < 2147483648) (h3 : -2147483648 ≤ b) (h4 : b < 2147483648) {off : Int} {tgt : Nat} (hdg : decode cc pc = .ok (.if_icmp .le off, 3)) (ht : (pc : Int) + off = (tgt : Int))
    (kt : ¬ b < a → W p l e RM s m args below meth c H locs cells slots Q (F0 m tgt ls rest)) (kf : b < a → W p l e RM s m args below meth c H locs cells slots Q (F0 m (pc + 3) ls rest)) : W p l e RM s m args below meth c H locs cells slots Q (F0 m pc ls (.int (iI b) :: .int (iI a) :: rest)) :=
  ic_le hx hb hdg ht (fun h => kt (by rw [← iI_lt h3 h4 h1 h2]; exact h)) (fun h => kf (by rw [← iI_lt h3 h4 h1 h2]; exact h))
theorem zz_le (hx : p.tables.exec = Jvm.exec) (hb : c.code = cc) (a : Int) (h1 : -2147483648 ≤ a) (h2 : a < 2147483648) {off : Int} {tgt : Nat} (hdg : decode cc pc = .ok (.ifCond .le off, 3)) (ht : (pc : Int) + off = (tgt : Int))
    (kt : ¬ 0 < a → W p l e RM s m args below meth c H locs cells slots Q (F0 m tgt ls rest)) (kf : 0 < a → W p l e RM s m args below meth c H locs cells slots Q (F0 m (pc + 3) ls rest)) : W p l e RM s m args below meth c H locs cells slots Q (F0 m pc ls (.int (iI a) :: rest)) :=
  iz_le hx hb hdg ht (fun h => kt (by rw [← iI_lt (a := 0) (by omega) (by omega) h1 h2]; exact h)) (fun h => kf (by rw [← iI_lt (a := 0) (by omega) (by omega) h1 h2]; exact h))
theorem nc_le (hx : p.tables.exec = Jvm.exec) (hb : c.code = cc) (a b : Nat) (h1 : a < 2147483648) (h2 : b < 2147483648) {off : Int} {tgt : Nat} (hdg : decode cc pc = .ok (.if_icmp .le off, 3)) (ht : (pc : Int) + off = (tgt : Int))
    (kt : ¬ b < a → W p l e RM s m args below meth c H locs cells slots Q (F0 m tgt ls rest)) (kf : b < a → W p l e RM s m args below meth c H locs cells slots Q (F0 m (pc + 3) ls rest)) : W p l e RM s m args below meth c H locs cells slots Q (F0 m pc ls (.int (nI b) :: .int (nI a) :: rest)) :=
  ic_le hx hb hdg ht (fun h => kt (by rw [← nI_ltI h2 h1]; exact h)) (fun h => kf (by rw [← nI_ltI h2 h1]; exact h))
theorem zl_le (hx : p.tables.exec = Jvm.exec) (hb : c.code = cc) (a b : Int) (h1 : -9223372036854775808 ≤ a) (h2 : a < 9223372036854775808) (h3 : -9223372036854775808 ≤ b) (h4 : b < 9223372036854775808) {off : Int} {tgt : Nat} (hd1 : decode cc pc = .ok (.lcmp, 1)) (hd2 : decode cc (pc + 1) = .ok (.ifCond .le off, 3)) (ht : ((pc + 1 : Nat) : Int) + off = (tgt : Int))
    (kt : ¬ b < a → W p l e RM s m args below meth c H locs cells slots Q (F0 m tgt ls rest)) (kf : b < a → W p l e RM s m args below meth c H locs cells slots Q (F0 m (pc + 1 + 3) ls rest)) : W p l e RM s m args below meth c H locs cells slots Q (F0 m pc ls (.long (iL b) :: .long (iL a) :: rest)) :=
  ls_le hx hb hd1 hd2 ht (fun h => kt (by rw [← iL_lt h3 h4 h1 h2]; exact h)) (fun h => kf (by rw [← iL_lt h3 h4 h1 h2]; exact h))
theorem nz_eq (hx : p.tables.exec = Jvm.exec) (hb : c.code = cc) (a : Nat) (h1 : a < 2147483648) {off : Int} {tgt : Nat} (hdg : decode cc pc = .ok (.ifCond .eq off, 3)) (ht : (pc : Int) + off = (tgt : Int))
    (kt : a = 0 → W p l e RM s m args below meth c H locs cells slots Q (F0 m tgt ls rest)) (kf : ¬ a = 0 → W p l e RM s m args below meth c H locs cells slots Q (F0 m (pc + 3) ls rest)) : W p l e RM s m args below meth c H locs cells slots Q (F0 m pc ls (.int (nI a) :: rest)) :=
  lv_if_eq hx hb hdg ht (fun h => kt (by rw [← nI_eq (b := 0) h1 (by decide)]; exact h)) (fun h => kf (by rw [← nI_eq (b := 0) h1 (by decide)]; exact h))
theorem nz_ne (hx : p.tables.exec = Jvm.exec) (hb : c.code = cc) (a : Nat) (h1 : a < 2147483648) {off : Int} {tgt : Nat} (hdg : decode cc pc = .ok (.ifCond .ne off, 3)) (ht : (pc : Int) + off = (tgt : Int))
    (kt : ¬ a = 0 → W p l e RM s m args below meth c H locs cells slots Q (F0 m tgt ls rest)) (kf : a = 0 → W p l e RM s m args below meth c H locs cells slots Q (F0 m (pc + 3) ls rest)) : W p l e RM s m args below meth c H locs cells slots Q (F0 m pc ls (.int (nI a) :: rest)) :=
  lv_if_ne hx hb hdg ht (fun h => kt (by rw [← nI_eq (b := 0) h1 (by decide)]; exact h)) (fun h => kf (by rw [← nI_eq (b := 0) h1 (by decide)]; exact h))
theorem nz_gt (hx : p.tables.exec = Jvm.exec) (hb : c.code = cc) (a : Nat) (h1 : a < 2147483648) {off : Int} {tgt : Nat} (hdg : decode cc pc = .ok (.ifCond .gt off, 3)) (ht : (pc : Int) + off = (tgt : Int))
    (kt : 0 < a → W p l e RM s m args below meth c H locs cells slots Q (F0 m tgt ls rest)) (kf : ¬ 0 < a → W p l e RM s m args below meth c H locs cells slots Q (F0 m (pc + 3) ls rest)) : W p l e RM s m args below meth c H locs cells slots Q (F0 m pc ls (.int (nI a) :: rest)) :=
  lv_if_gt hx hb hdg ht (fun h => kt (by rw [← nI_ltI (a := 0) (by decide) h1]; exact h)) (fun h => kf (by rw [← nI_ltI (a := 0) (by decide) h1]; exact h))
theorem nz_le (hx : p.tables.exec = Jvm.exec) (hb : c.code = cc) (a : Nat) (h1 : a < 2147483648) {off : Int} {tgt : Nat} (hdg : decode cc pc = .ok (.ifCond .le off, 3)) (ht : (pc : Int) + off = (tgt : Int))
    (kt : ¬ 0 < a → W p l e RM s m args below meth c H locs cells slots Q (F0 m tgt ls rest)) (kf : 0 < a → W p l e RM s m args below meth c H locs cells slots Q (F0 m (pc + 3) ls rest)) : W p l e RM s m args below meth c H locs cells slots Q (F0 m pc ls (.int (nI a) :: rest)) :=
  iz_le hx hb hdg ht (fun h => kt (by rw [← nI_ltI (a := 0) (by decide) h1]; exact h)) (fun h => kf (by rw [← nI_ltI (a := 0) (by decide) h1]; exact h))
theorem yc_eq (hx : p.tables.exec = Jvm.exec) (hb : c.code = cc) {x y : Int32} (a b : Int) (ha : x.toInt = a) (hb2 : y.toInt = b) {off : Int} {tgt : Nat} (hdg : decode cc pc = .ok (.if_icmp .eq off, 3)) (ht : (pc : Int) + off = (tgt : Int))
    (kt : a = b → W p l e RM s m args below meth c H locs cells slots Q (F0 m tgt ls rest)) (kf : ¬ a = b → W p l e RM s m args below meth c H locs cells slots Q (F0 m (pc + 3) ls rest)) : W p l e RM s m args below meth c H locs cells slots Q (F0 m pc ls (.int y :: .int x :: rest)) := by
  subst ha hb2
  exact lv_icmp_eq hx hb hdg ht (fun h => kt (by rw [← Int32.toInt_inj] at h; exact h)) (fun h => kf (by rw [← Int32.toInt_inj] at h; exact h))
theorem yz_eq (hx : p.tables.exec = Jvm.exec) (hb : c.code = cc) {x : Int32} (a : Int) (ha : x.toInt = a) {off : Int} {tgt : Nat} (hdg : decode cc pc = .ok (.ifCond .eq off, 3)) (ht : (pc : Int) + off = (tgt : Int))
    (kt : a = 0 → W p l e RM s m args below meth c H locs cells slots Q (F0 m tgt ls rest)) (kf : ¬ a = 0 → W p l e RM s m args below meth c H locs cells slots Q (F0 m (pc + 3) ls rest)) : W p l e RM s m args below meth c H locs cells slots Q (F0 m pc ls (.int x :: rest)) := by
  subst ha
  exact lv_if_eq hx hb hdg ht (fun h => kt (by rw [← Int32.toInt_inj] at h; exact h)) (fun h => kf (by rw [← Int32.toInt_inj] at h; exact h))
theorem yc_ne (hx : p.tables.exec = Jvm.exec) (hb : c.code = cc) {x y : Int32} (a b : Int) (ha : x.toInt = a) (hb2 : y.toInt = b) {off : Int} {tgt : Nat} (hdg : decode cc pc = .ok (.if_icmp .ne off, 3)) (ht : (pc : Int) + off = (tgt : Int))
    (kt : ¬ a = b → W p l e RM s m args below meth c H locs cells slots Q (F0 m tgt ls rest)) (kf : a = b → W p l e RM s m args below meth c H locs cells slots Q (F0 m (pc + 3) ls rest)) : W p l e RM s m args below meth c H locs cells slots Q (F0 m pc ls (.int y :: .int x :: rest)) := by
  subst ha hb2
  exact lv_icmp_ne hx hb hdg ht (fun h => kt (by rw [← Int32.toInt_inj] at h; exact h)) (fun h => kf (by rw [← Int32.toInt_inj] at h; exact h))
theorem yz_ne (hx : p.tables.exec = Jvm.exec) (hb : c.code = cc) {x : Int32} (a : Int) (ha : x.toInt = a) {off : Int} {tgt : Nat} (hdg : decode cc pc = .ok (.ifCond .ne off, 3)) (ht : (pc : Int) + off = (tgt : Int))
    (kt : ¬ a = 0 → W p l e RM s m args below meth c H locs cells slots Q (F0 m tgt ls rest)) (kf : a = 0 → W p l e RM s m args below meth c H locs cells slots Q (F0 m (pc + 3) ls rest)) : W p l e RM s m args below meth c H locs cells slots Q (F0 m pc ls (.int x :: rest)) := by
  subst ha
  exact lv_if_ne hx hb hdg ht (fun h => kt (by rw [← Int32.toInt_inj] at h; exact h)) (fun h => kf (by rw [← Int32.toInt_inj] at h; exact h))
theorem yc_lt (hx : p.tables.exec = Jvm.exec) (hb : c.code = cc) {x y : Int32} (a b : Int) (ha : x.toInt = a) (hb2 : y.toInt = b) {off : Int} {tgt : Nat} (hdg : decode cc pc = .ok (.if_icmp .lt off, 3)) (ht : (pc : Int) + off = (tgt : Int))
    (kt : a < b → W p l e RM s m args below meth c H locs cells slots Q (F0 m tgt ls rest)) (kf : ¬ a < b → W p l e RM s m args below meth c H locs cells slots Q (F0 m (pc + 3) ls rest)) : W p l e RM s m args below meth c H locs cells slots Q (F0 m pc ls (.int y :: .int x :: rest)) := by
  subst ha hb2
  exact lv_icmp_lt hx hb hdg ht (fun h => kt (by rw [Int32.lt_iff_toInt_lt] at h; exact h)) (fun h => kf (by rw [Int32.lt_iff_toInt_lt] at h; exact h))
theorem yz_lt (hx : p.tables.exec = Jvm.exec) (hb : c.code = cc) {x : Int32} (a : Int) (ha : x.toInt = a) {off : Int} {tgt : Nat} (hdg : decode cc pc = .ok (.ifCond .lt off, 3)) (ht : (pc : Int) + off = (tgt : Int))
    (kt : a < 0 → W p l e RM s m args below meth c H locs cells slots Q (F0 m tgt ls rest)) (kf : ¬ a < 0 → W p l e RM s m args below meth c H locs cells slots Q (F0 m (pc + 3) ls rest)) : W p l e RM s m args below meth c H locs cells slots Q (F0 m pc ls (.int x :: rest)) := by
  subst ha
  exact lv_if_lt hx hb hdg ht (fun h => kt (by rw [Int32.lt_iff_toInt_lt] at h; exact h)) (fun h => kf (by rw [Int32.lt_iff_toInt_lt] at h; exact h))
theorem yc_ge (hx : p.tables.exec = Jvm.exec) (hb : c.code = cc) {x y : Int32} (a b : Int) (ha : x.toInt = a) (hb2 : y.toInt = b) {off : Int} {tgt : Nat} (hdg : decode cc pc = .ok (.if_icmp .ge off, 3)) (ht : (pc : Int) + off = (tgt : Int))
    (kt : ¬ a < b → W p l e RM s m args below meth c H locs cells slots Q (F0 m tgt ls rest)) (kf : a < b → W p l e RM s m args below meth c H locs cells slots Q (F0 m (pc + 3) ls rest)) : W p l e RM s m args below meth c H locs cells slots Q (F0 m pc ls (.int y :: .int x :: rest)) := by
  subst ha hb2
  exact ic_ge hx hb hdg ht (fun h => kt (by rw [Int32.lt_iff_toInt_lt] at h; exact h)) (fun h => kf (by rw [Int32.lt_iff_toInt_lt] at h; exact h))
theorem yz_ge (hx : p.tables.exec = Jvm.exec) (hb : c.code = cc) {x : Int32} (a : Int) (ha : x.toInt = a) {off : Int} {tgt : Nat} (hdg : decode cc pc = .ok (.ifCond .ge off, 3)) (ht : (pc : Int) + off = (tgt : Int))
    (kt : ¬ a < 0 → W p l e RM s m args below meth c H locs cells slots Q (F0 m tgt ls rest)) (kf : a < 0 → W p l e RM s m args below meth c H locs cells slots Q (F0 m (pc + 3) ls rest)) : W p l e RM s m args below meth c H locs cells slots Q (F0 m pc ls (.int x :: rest)) := by
  subst ha
  exact iz_ge hx hb hdg ht (fun h => kt (by rw [Int32.lt_iff_toInt_lt] at h; exact h)) (fun h => kf (by rw [Int32.lt_iff_toInt_lt] at h; exact h))
theorem yc_gt (hx : p.tables.exec = Jvm.exec) (hb : c.code = cc) {x y : Int32} (a b : Int) (ha : x.toInt = a) (hb2 : y.toInt = b) {off : Int} {tgt : Nat} (hdg : decode cc pc = .ok (.if_icmp .gt off, 3)) (ht : (pc : Int) + off = (tgt : Int))
    (kt : b < a → W p l e RM s m args below meth c H locs cells slots Q (F0 m tgt ls rest)) (kf : ¬ b < a → W p l e RM s m args below meth c H locs cells slots Q (F0 m (pc + 3) ls rest)) : W p l e RM s m args below meth c H locs cells slots Q (F0 m pc ls (.int y :: .int x :: rest)) := by
  subst ha hb2
  exact lv_icmp_gt hx hb hdg ht (fun h => kt (by rw [Int32.lt_iff_toInt_lt] at h; exact h)) (fun h => kf (by rw [Int32.lt_iff_toInt_lt] at h; exact h))
theorem yz_gt (hx : p.tables.exec = Jvm.exec) (hb : c.code = cc) {x : Int32} (a : Int) (ha : x.toInt = a) {off : Int} {tgt : Nat} (hdg : decode cc pc = .ok (.ifCond .gt off, 3)) (ht : (pc : Int) + off = (tgt : Int))
    (kt : 0 < a → W p l e RM s m args below meth c H locs cells slots Q (F0 m tgt ls rest)) (kf : ¬ 0 < a → W p l e RM s m args below meth c H locs cells slots Q (F0 m (pc + 3) ls rest)) : W p l e RM s m args below meth c H locs cells slots Q (F0 m pc ls (.int x :: rest)) := by
  subst ha
  exact lv_if_gt hx hb hdg ht (fun h => kt (by rw [Int32.lt_iff_toInt_lt] at h; exact h)) (fun h => kf (by rw [Int32.lt_iff_toInt_lt] at h; exact h))
theorem yc_le (hx : p.tables.exec = Jvm.exec) (hb : c.code = cc) {x y : Int32} (a b : Int) (ha : x.toInt = a) (hb2 : y.toInt = b) {off : Int} {tgt : Nat} (hdg : decode cc pc = .ok (.if_icmp .le off, 3)) (ht : (pc : Int) + off = (tgt : Int))
    (kt : ¬ b < a → W p l e RM s m args below meth c H locs cells slots Q (F0 m tgt ls rest)) (kf : b < a → W p l e RM s m args below meth c H locs cells slots Q (F0 m (pc + 3) ls rest)) : W p l e RM s m args below meth c H locs cells slots Q (F0 m pc ls (.int y :: .int x :: rest)) := by
  subst ha hb2
  exact ic_le hx hb hdg ht (fun h => kt (by rw [Int32.lt_iff_toInt_lt] at h; exact h)) (fun h => kf (by rw [Int32.lt_iff_toInt_lt] at h; exact h))
theorem yz_le (hx : p.tables.exec = Jvm.exec) (hb : c.code = cc) {x : Int32} (a : Int) (ha : x.toInt = a) {off : Int} {tgt : Nat} (hdg : decode cc pc = .ok (.ifCond .le off, 3)) (ht : (pc : Int) + off = (tgt : Int))
    (kt : ¬ 0 < a → W p l e RM s m args below meth c H locs cells slots Q (F0 m tgt ls rest)) (kf : 0 < a → W p l e RM s m args below meth c H locs cells slots Q (F0 m (pc + 3) ls rest)) : W p l e RM s m args below meth c H locs cells slots Q (F0 m pc ls (.int x :: rest)) := by
  subst ha
  exact iz_le hx hb hdg ht (fun h => kt (by rw [Int32.lt_iff_toInt_lt] at h; exact h)) (fun h => kf (by rw [Int32.lt_iff_toInt_lt] at h; exact h))
theorem iremN (hx : p.tables.exec = Jvm.exec) (hb : c.code = cc) (a d : Nat) (h1 : a < 2147483648) (h2 : 0 < d) (h3 : d < 2147483648) (hdg : decode cc pc = .ok (.irem, 1))
    (k : W p l e RM s m args below meth c H locs cells slots Q (F0 m (pc + 1) ls (.int (nI (a % d)) :: rest))) : W p l e RM s m args below meth c H locs cells slots Q (F0 m pc ls (.int (nI d) :: .int (nI a) :: rest)) :=
  lv_irem hx hb hdg (fun e => nI_ne0 h2 h3 e) (by rw [pk_rem h1 h2 h3]; exact k)
theorem idivZ (hx : p.tables.exec = Jvm.exec) (hb : c.code = cc) (a d : Int) (h1 : 0 ≤ a) (h1b : a < 2147483648) (h2 : 0 < d) (h3 : d < 2147483648) (hdg : decode cc pc = .ok (.idiv, 1))
    (k : W p l e RM s m args below meth c H locs cells slots Q (F0 m (pc + 1) ls (.int (iI (a / d)) :: rest))) : W p l e RM s m args below meth c H locs cells slots Q (F0 m pc ls (.int (iI d) :: .int (iI a) :: rest)) := by
  obtain ⟨n, rfl⟩ := Int.eq_ofNat_of_zero_le h1
  obtain ⟨q, rfl⟩ := Int.eq_ofNat_of_zero_le (Int.le_of_lt h2)
  refine lv_idiv hx hb hdg (fun e => nI_ne0 (n := q) (by omega) (by omega) e) ?_
  have e : iI ((n : Int)) / iI ((q : Int)) = iI ((n : Int) / (q : Int)) := by
    rw [← nI_iI, ← nI_iI, pk_div (by omega) (by omega) (by omega), nI_iI]
    rfl
  rw [e]
  exact k
theorem idivN (hx : p.tables.exec = Jvm.exec) (hb : c.code = cc) (a d : Nat) (h1 : a < 2147483648) (h2 : 0 < d) (h3 : d < 2147483648) (hdg : decode cc pc = .ok (.idiv, 1))
    (k : W p l e RM s m args below meth c H locs cells slots Q (F0 m (pc + 1) ls (.int (nI (a / d)) :: rest))) : W p l e RM s m args below meth c H locs cells slots Q (F0 m pc ls (.int (nI d) :: .int (nI a) :: rest)) :=
  lv_idiv hx hb hdg (fun e => nI_ne0 h2 h3 e) (by rw [pk_div h1 h2 h3]; exact k)
-- array rows by a natural place
theorem mo_ialdN (hC : CallFix p m c cc nL s args GW R_Mo) (hK : KE D cT s) (hM : MO D cT ad I J a g H0 H locs) (k j : Nat) (ha : k ∈ mArr) (hk : mKind k = 2) {n : Nat} (hn : mLen k = n) (hn2 : n ≤ 12288) {i : Int32} (hj : i = nI j) (hlt : j < n) {v : Int32} (hv : a k j = v) (hdg : decode cc pc = .ok (.iaload, 1))
    (kk : W p l e RM s m args below meth c H locs cells slots Q (F0 m (pc + 1) ls (.int v :: rest))) : W p l e RM s m args below meth c H locs cells slots Q (F0 m pc ls (.int i :: .ref (ad k) :: rest)) := by
  subst hj
  exact mo_iald hC hK hM k ha hk hn (vp_in_nI hlt (by omega)) (by rw [nI_clN (by omega)]; exact hv) hdg kk
theorem mo_zaldN (hC : CallFix p m c cc nL s args GW R_Mo) (hK : KE D cT s) (hM : MO D cT ad I J a g H0 H locs) (k j : Nat) (ha : k ∈ mArr) (hk : mKind k = 4) {n : Nat} (hn : mLen k = n) (hn2 : n ≤ 12288) {i : Int32} (hj : i = nI j) (hlt : j < n) {v : Int32} (hv : a k j = v) (hdg : decode cc pc = .ok (.baload, 1))
    (kk : W p l e RM s m args below meth c H locs cells slots Q (F0 m (pc + 1) ls (.int v :: rest))) : W p l e RM s m args below meth c H locs cells slots Q (F0 m pc ls (.int i :: .ref (ad k) :: rest)) := by
  subst hj
  exact mo_zald hC hK hM k ha hk hn (vp_in_nI hlt (by omega)) (by rw [nI_clN (by omega)]; exact hv) hdg kk
theorem mo_laldN (hC : CallFix p m c cc nL s args GW R_Mo) (hK : KE D cT s) (hM : MO D cT ad I J a g H0 H locs) (k j : Nat) (ha : k ∈ mArr) (hk : mKind k = 3) {n : Nat} (hn : mLen k = n) (hn2 : n ≤ 12288) {i : Int32} (hj : i = nI j) (hlt : j < n) {v : Int64} (hv : g k j = v) (hdg : decode cc pc = .ok (.laload, 1))
    (kk : W p l e RM s m args below meth c H locs cells slots Q (F0 m (pc + 1) ls (.long v :: rest))) : W p l e RM s m args below meth c H locs cells slots Q (F0 m pc ls (.int i :: .ref (ad k) :: rest)) := by
  subst hj
  exact mo_lald hC hK hM k ha hk hn (vp_in_nI hlt (by omega)) (by rw [nI_clN (by omega)]; exact hv) hdg kk
theorem mo_iastN (hC : CallFix p m c cc nL s args GW R_Mo) (hK : KE D cT s) (hM : MO D cT ad I J a g H0 H locs) (k j : Nat) (ha : k ∈ mArr) (hk : mKind k = 2) {n : Nat} (hn : mLen k = n) (hn2 : n ≤ 12288) {i x : Int32} (hj : i = nI j) (hlt : j < n) (hdg : decode cc pc = .ok (.iastore, 1))
    (kk : ∀ (H1 : Heap) (locs1 : List Loc), MO D cT ad I J (va_up a k (upd (a k) j x)) g H0 H1 locs1 → W p l e RM s m args below meth c H1 locs1 cells slots Q (F0 m (pc + 1) ls rest)) : W p l e RM s m args below meth c H locs cells slots Q (F0 m pc ls (.int x :: .int i :: .ref (ad k) :: rest)) := by
  subst hj
  refine mo_iast hC hK hM k ha hk hn (vp_in_nI hlt (by omega)) hdg ?_
  rw [nI_clN (by omega)]
  exact kk
theorem mo_zastN (hC : CallFix p m c cc nL s args GW R_Mo) (hK : KE D cT s) (hM : MO D cT ad I J a g H0 H locs) (k j : Nat) (ha : k ∈ mArr) (hk : mKind k = 4) {n : Nat} (hn : mLen k = n) (hn2 : n ≤ 12288) {i x : Int32} (hj : i = nI j) (hlt : j < n) (hz : x = 0 ∨ x = 1) (hdg : decode cc pc = .ok (.bastore, 1))
    (kk : ∀ (H1 : Heap) (locs1 : List Loc), MO D cT ad I J (va_up a k (upd (a k) j x)) g H0 H1 locs1 → W p l e RM s m args below meth c H1 locs1 cells slots Q (F0 m (pc + 1) ls rest)) : W p l e RM s m args below meth c H locs cells slots Q (F0 m pc ls (.int x :: .int i :: .ref (ad k) :: rest)) := by
  subst hj
  refine mo_zast hC hK hM k ha hk hn (vp_in_nI hlt (by omega)) hz hdg ?_
  rw [nI_clN (by omega)]
  exact kk
theorem mo_lastN (hC : CallFix p m c cc nL s args GW R_Mo) (hK : KE D cT s) (hM : MO D cT ad I J a g H0 H locs) (k j : Nat) (ha : k ∈ mArr) (hk : mKind k = 3) {n : Nat} (hn : mLen k = n) (hn2 : n ≤ 12288) {i : Int32} {x : Int64} (hj : i = nI j) (hlt : j < n) (hdg : decode cc pc = .ok (.lastore, 1))
    (kk : ∀ (H1 : Heap) (locs1 : List Loc), MO D cT ad I J a (va_up g k (vp_updL (g k) j x)) H0 H1 locs1 → W p l e RM s m args below meth c H1 locs1 cells slots Q (F0 m (pc + 1) ls rest)) : W p l e RM s m args below meth c H locs cells slots Q (F0 m pc ls (.long x :: .int i :: .ref (ad k) :: rest)) := by
  subst hj
  refine mo_last hC hK hM k ha hk hn (vp_in_nI hlt (by omega)) hdg ?_
  rw [nI_clN (by omega)]
  exact kk
end NB
