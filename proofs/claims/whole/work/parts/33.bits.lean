/-! ===== Int32 by its bits: bt x i ===== -/
def bt (x : Int32) (i : Nat) : Bool := x.toBitVec.getLsbD i
theorem b_ext {x y : Int32} (h : ∀ i, i < 32 → bt x i = bt y i) : x = y := Int32.toBitVec_inj.mp (BitVec.eq_of_getLsbD_eq (fun i hi => h i hi))
theorem b_or (x y : Int32) (i : Nat) : bt (x ||| y) i = (bt x i || bt y i) := by unfold bt; rw [Int32.toBitVec_or, BitVec.getLsbD_or]
theorem b_and (x y : Int32) (i : Nat) : bt (x &&& y) i = (bt x i && bt y i) := by unfold bt; rw [Int32.toBitVec_and, BitVec.getLsbD_and]
theorem b_xor (x y : Int32) (i : Nat) : bt (x ^^^ y) i = (bt x i ^^ bt y i) := by unfold bt; rw [Int32.toBitVec_xor, BitVec.getLsbD_xor]
theorem b_big {x : Int32} {i : Nat} (h : 32 ≤ i) : bt x i = false := BitVec.getLsbD_of_ge _ _ h
theorem b_255 (i : Nat) : bt 255 i = decide (i < 8) := by
  rcases Nat.lt_or_ge i 32 with h | h
  · exact (by decide +kernel : ∀ i, i < 32 → bt 255 i = decide (i < 8)) i h
  · rw [b_big h, decide_eq_false (by omega)]
theorem b_65535 (i : Nat) : bt 65535 i = decide (i < 16) := by
  rcases Nat.lt_or_ge i 32 with h | h
  · exact (by decide +kernel : ∀ i, i < 32 → bt 65535 i = decide (i < 16)) i h
  · rw [b_big h, decide_eq_false (by omega)]
theorem b_m1 : ∀ i, i < 32 → bt (-1) i = true := by decide +kernel
theorem b_0 (i : Nat) : bt 0 i = false := BitVec.getLsbD_zero
theorem s_l : ∀ n, n < 32 → ((nI n &&& 31).toBitVec.smod 32).toNat = n := by decide +kernel
theorem s_u : ∀ n, n < 32 → (((nI n).toUInt32 &&& Int32.toUInt32 31).toBitVec % 32).toNat = n := by decide +kernel
theorem b_shl (n : Nat) (hn : n < 32) (x : Int32) {i : Nat} (hi : i < 32) : bt (x <<< (nI n &&& 31)) i = (decide (n ≤ i) && bt x (i - n)) := by
  unfold bt
  rw [Int32.toBitVec_shiftLeft]
  show (x.toBitVec <<< ((nI n &&& 31).toBitVec.smod 32).toNat).getLsbD i = _
  rw [s_l n hn, BitVec.getLsbD_shiftLeft]
  rcases Nat.lt_or_ge i n with h | h
  · simp [h, Nat.not_le.mpr h]
  · simp [hi, h, Nat.not_lt.mpr h]
theorem b_ushr (n : Nat) (hn : n < 32) (x : Int32) (i : Nat) : bt ((x.toUInt32 >>> ((nI n).toUInt32 &&& Int32.toUInt32 31)).toInt32) i = bt x (n + i) := by
  show (x.toUInt32 >>> ((nI n).toUInt32 &&& Int32.toUInt32 31)).toBitVec.getLsbD i = x.toUInt32.toBitVec.getLsbD (n + i)
  rw [UInt32.toBitVec_shiftRight]
  show (x.toUInt32.toBitVec >>> (((nI n).toUInt32 &&& Int32.toUInt32 31).toBitVec % 32).toNat).getLsbD i = _
  rw [s_u n hn, BitVec.getLsbD_ushiftRight]
theorem b_sshr (n : Nat) (hn : n < 32) (x : Int32) {i : Nat} (hi : i < 32) : bt (x >>> (nI n &&& 31)) i = if n + i < 32 then bt x (n + i) else bt x 31 := by
  unfold bt
  rw [Int32.toBitVec_shiftRight]
  show (x.toBitVec.sshiftRight ((nI n &&& 31).toBitVec.smod 32).toNat).getLsbD i = _
  rw [s_l n hn, BitVec.getLsbD_sshiftRight, BitVec.msb_eq_getLsbD_last]
  simp [hi]
theorem b_shl8 (x : Int32) {i : Nat} (hi : i < 32) : bt (x <<< ((8 : Int32) &&& 31)) i = (decide (8 ≤ i) && bt x (i - 8)) := b_shl 8 (by omega) x hi
theorem b_shl16 (x : Int32) {i : Nat} (hi : i < 32) : bt (x <<< ((16 : Int32) &&& 31)) i = (decide (16 ≤ i) && bt x (i - 16)) := b_shl 16 (by omega) x hi
theorem b_shl24 (x : Int32) {i : Nat} (hi : i < 32) : bt (x <<< ((24 : Int32) &&& 31)) i = (decide (24 ≤ i) && bt x (i - 24)) := b_shl 24 (by omega) x hi
theorem b_sshr8 (x : Int32) {i : Nat} (hi : i < 32) : bt (x >>> ((8 : Int32) &&& 31)) i = if 8 + i < 32 then bt x (8 + i) else bt x 31 := b_sshr 8 (by omega) x hi
/-! ===== nI under and, xor, >>>, one bit, 65535 ===== -/
theorem nx_and (a b : Nat) : nI a &&& nI b = nI (a &&& b) := by
  apply Int32.toBitVec_inj.1
  show BitVec.ofNat 32 a &&& BitVec.ofNat 32 b = BitVec.ofNat 32 (a &&& b)
  apply BitVec.eq_of_getLsbD_eq
  intro i hi
  simp [hi]
theorem nx_xor (a b : Nat) : nI a ^^^ nI b = nI (a ^^^ b) := by
  apply Int32.toBitVec_inj.1
  show BitVec.ofNat 32 a ^^^ BitVec.ofNat 32 b = BitVec.ofNat 32 (a ^^^ b)
  apply BitVec.eq_of_getLsbD_eq
  intro i hi
  simp [hi]
theorem nx_cnt : ∀ j : Fin 32, (UInt32.ofNat j.val &&& Int32.toUInt32 31).toNat % 32 = j.val := by decide +kernel
theorem nx_ush {k j : Nat} (hk : k < 65536) (hj : j < 32) : ((nI k).toUInt32 >>> ((nI j).toUInt32 &&& Int32.toUInt32 31)).toInt32 = nI (k >>> j) := by
  have hs : k >>> j ≤ k := by
    rw [Nat.shiftRight_eq_div_pow]
    exact Nat.div_le_self _ _
  have e2 : UInt32.ofNat k >>> (UInt32.ofNat j &&& Int32.toUInt32 31) = UInt32.ofNat (k >>> j) := by
    apply UInt32.toNat_inj.1
    have h1 : (UInt32.ofNat k).toNat = k := Nat.mod_eq_of_lt (by omega)
    have h2 : (UInt32.ofNat (k >>> j)).toNat = k >>> j := Nat.mod_eq_of_lt (by omega)
    rw [UInt32.toNat_shiftRight, nx_cnt ⟨j, hj⟩, h1, h2]
  show (UInt32.ofNat k >>> (UInt32.ofNat j &&& Int32.toUInt32 31)).toInt32 = _
  rw [e2]
  rfl
theorem nx_bit {k j : Nat} (hk : k < 65536) (hj : j < 16) : (((nI k).toUInt32 >>> ((nI j).toUInt32 &&& Int32.toUInt32 31)).toInt32 &&& 1) = 0 ↔ k.testBit j = false := by
  rw [nx_ush hk (by omega)]
  show nI (k >>> j) &&& nI 1 = 0 ↔ _
  rw [nx_and, Nat.and_one_is_mod, ← nI_0, nI_eq (by omega) (by omega), Nat.testBit_eq_decide_div_mod_eq, Nat.shiftRight_eq_div_pow, decide_eq_false_iff_not]
  generalize k / 2 ^ j = z
  omega
theorem nx_mod (k : Nat) : nI k &&& 65535 = nI (k % 65536) := by
  show nI k &&& nI 65535 = _
  rw [nx_and, show (65535 : Nat) = 2 ^ 16 - 1 from rfl, Nat.and_two_pow_sub_one_eq_mod]
theorem nx_m16 {k : Nat} (h : k < 65536) : nI k &&& 65535 = nI k := by rw [nx_mod, Nat.mod_eq_of_lt h]
theorem nx_mask (x : Int32) : ∃ k, k < 65536 ∧ x &&& 65535 = nI k := by
  have e : x = nI x.toBitVec.toNat := by
    apply Int32.toBitVec_inj.1
    show x.toBitVec = BitVec.ofNat 32 x.toBitVec.toNat
    simp
  refine ⟨x.toBitVec.toNat % 65536, Nat.mod_lt _ (by omega), ?_⟩
  rw [← nx_mod, ← e]
/-! own rows on bits: the count of a row's bits -/
def sm (f : Nat → Nat) : Nat → Nat
  | 0 => 0
  | n + 1 => sm f n + f n
theorem sm_cong {f g : Nat → Nat} : ∀ {n : Nat}, (∀ j, j < n → f j = g j) → sm f n = sm g n
  | 0, _ => rfl
  | n + 1, h => by
    show sm f n + f n = sm g n + g n
    rw [sm_cong (fun j hj => h j (by omega)), h n (by omega)]
theorem sm_add {f : Nat → Nat} : ∀ (n k : Nat), sm f (n + k) = sm f n + sm (fun j => f (n + j)) k
  | n, 0 => rfl
  | n, k + 1 => by
    show sm f (n + k) + f (n + k) = sm f n + (sm (fun j => f (n + j)) k + f (n + k))
    rw [sm_add n k, Nat.add_assoc]
theorem sm_le {f : Nat → Nat} {c : Nat} : ∀ {n : Nat}, (∀ j, j < n → f j ≤ c) → sm f n ≤ c * n
  | 0, _ => Nat.zero_le _
  | n + 1, h => by
    show sm f n + f n ≤ c * (n + 1)
    have h1 := sm_le (f := f) (c := c) (n := n) (fun j hj => h j (by omega))
    have h2 := h n (by omega)
    rw [Nat.mul_succ]
    omega
/-- a count by rows of w -/
theorem cn_sm {P : Nat → Bool} {w : Nat} : ∀ (n : Nat), cn P (w * n) = sm (fun q => cn (fun j => P (w * q + j)) w) n
  | 0 => rfl
  | n + 1 => by
    show _ = sm _ n + _
    rw [← cn_sm n, Nat.mul_succ]
    have h : ∀ k, cn P (w * n + k) = cn P (w * n) + cn (fun j => P (w * n + j)) k := by
      intro k
      induction k with
      | zero => rfl
      | succ k ih =>
        show cn P (w * n + k) + (if P (w * n + k) = true then 1 else 0) = cn P (w * n) + (cn (fun j => P (w * n + j)) k + (if P (w * n + k) = true then 1 else 0))
        rw [ih, Nat.add_assoc]
    exact h w
/-- the machine's count of bits, over numbers below 65536 -/
def pcA (n : Nat) : Nat := n - ((n / 2) &&& 1431655765)
def pcB (n : Nat) : Nat := (n &&& 858993459) + ((n / 4) &&& 858993459)
def pcC (n : Nat) : Nat := (n + n / 16) &&& 252645135
def pcD (n : Nat) : Nat := n + n / 256
def pcE (n : Nat) : Nat := (n + n / 65536) % 64
def pop : Nat → Nat → Nat
  | 0, _ => 0
  | k + 1, n => pop k (n / 2) + n % 2
theorem and_split {u v c d : Nat} (hv : v < 256) (hd : d < 256) : (256 * u + v) &&& (256 * c + d) = 256 * (u &&& c) + (v &&& d) := by
  have hvd : v &&& d < 2 ^ 8 := Nat.lt_of_le_of_lt Nat.and_le_left hv
  apply Nat.eq_of_testBit_eq
  intro i
  rw [Nat.testBit_and, show (256 : Nat) = 2 ^ 8 from rfl, Nat.testBit_two_pow_mul_add u (show v < 2 ^ 8 from hv) i, Nat.testBit_two_pow_mul_add c (show d < 2 ^ 8 from hd) i, Nat.testBit_two_pow_mul_add (u &&& c) hvd i]
  split
  · rw [Nat.testBit_and]
  · rw [Nat.testBit_and]
def A8 (x : Nat) : Nat := x - ((x / 2) &&& 85)
def B8 (x : Nat) : Nat := (x &&& 51) + ((x / 4) &&& 51)
def C8 (x : Nat) : Nat := (x + x / 16) &&& 15
theorem f_A : ∀ x, x < 256 → A8 x < 256 ∧ (x / 2 &&& 5592405) = (x / 2 &&& 85) ∧ (x / 2 &&& 85) ≤ x := by decide +kernel
theorem f_A2 : ∀ x, x < 256 → ∀ b, b < 2 → (128 * b + x / 2) &&& 85 = (x / 2) &&& 85 := by decide +kernel
theorem f_B : ∀ x, x < 256 → (A8 x &&& 3355443) = (A8 x &&& 51) ∧ (A8 x / 4 &&& 3355443) = (A8 x / 4 &&& 51) ∧ B8 (A8 x) ≤ 68 ∧ B8 (A8 x) % 16 ≤ 4 := by decide +kernel
theorem f_B2 : ∀ x, x < 256 → ∀ b, b < 4 → (64 * b + x / 4) &&& 51 = (x / 4) &&& 51 := by decide +kernel
theorem f_C : ∀ x, x < 256 → ((B8 (A8 x) + B8 (A8 x) / 16) &&& 986895) = C8 (B8 (A8 x)) ∧ C8 (B8 (A8 x)) ≤ 8 ∧ C8 (B8 (A8 x)) = pop 8 x := by decide +kernel
theorem f_C2 : ∀ x, x < 256 → ∀ b, b < 5 → (B8 (A8 x) + 16 * b + B8 (A8 x) / 16) &&& 15 = C8 (B8 (A8 x)) := by decide +kernel
theorem pop_2 : ∀ (k n m : Nat), m < 2 ^ k → ∀ j, pop (k + j) (2 ^ k * n + m) = pop k m + pop j n
  | 0, n, m, h, j => by
    obtain rfl : m = 0 := by omega
    simp [pop]
  | k + 1, n, m, h, j => by
    rw [show k + 1 + j = (k + j) + 1 by omega]
    show pop (k + j) ((2 ^ (k + 1) * n + m) / 2) + (2 ^ (k + 1) * n + m) % 2 = pop k (m / 2) + m % 2 + pop j n
    have e : 2 ^ (k + 1) * n = 2 * (2 ^ k * n) := by rw [Nat.pow_succ, Nat.mul_comm (2 ^ k) 2, Nat.mul_assoc]
    rw [e, show (2 * (2 ^ k * n) + m) / 2 = 2 ^ k * n + m / 2 by omega, show (2 * (2 ^ k * n) + m) % 2 = m % 2 by omega, pop_2 k n (m / 2) (by rw [Nat.pow_succ] at h; omega) j]
    omega
theorem pc_uv {u v : Nat} (hu : u < 256) (hv : v < 256) : pcE (pcD (pcC (pcB (pcA (256 * u + v))))) = pop 16 (256 * u + v) := by
  have au := f_A u hu
  have av := f_A v hv
  have a2 := f_A2 v hv (u % 2) (by omega)
  have bu := f_B u hu
  have bv := f_B v hv
  have b2 := f_B2 (A8 v) av.1 (A8 u % 4) (by omega)
  have cu := f_C u hu
  have cv := f_C v hv
  have c2 := f_C2 v hv (B8 (A8 u) % 16) (by omega)
  have eA : pcA (256 * u + v) = 256 * A8 u + A8 v := by
    unfold pcA
    rw [show (256 * u + v) / 2 = 256 * (u / 2) + (128 * (u % 2) + v / 2) by omega, show (1431655765 : Nat) = 256 * 5592405 + 85 from rfl, and_split (by omega) (by decide), a2, au.2.1]
    unfold A8
    omega
  have eB : pcB (256 * A8 u + A8 v) = 256 * B8 (A8 u) + B8 (A8 v) := by
    unfold pcB
    rw [show (256 * A8 u + A8 v) / 4 = 256 * (A8 u / 4) + (64 * (A8 u % 4) + A8 v / 4) by omega, show (858993459 : Nat) = 256 * 3355443 + 51 from rfl, and_split av.1 (by decide), and_split (by omega) (by decide), b2, bu.1, bu.2.1]
    unfold B8
    omega
  have eC : pcC (256 * B8 (A8 u) + B8 (A8 v)) = 256 * C8 (B8 (A8 u)) + C8 (B8 (A8 v)) := by
    unfold pcC
    rw [show 256 * B8 (A8 u) + B8 (A8 v) + (256 * B8 (A8 u) + B8 (A8 v)) / 16 = 256 * (B8 (A8 u) + B8 (A8 u) / 16) + (B8 (A8 v) + 16 * (B8 (A8 u) % 16) + B8 (A8 v) / 16) by omega, show (252645135 : Nat) = 256 * 986895 + 15 from rfl, and_split (by omega) (by decide), c2, cu.1]
  rw [eA, eB, eC]
  have hp := pop_2 8 u v (by omega) 8
  rw [show (2 : Nat) ^ 8 * u = 256 * u from rfl, show 8 + 8 = 16 from rfl] at hp
  rw [hp, ← cu.2.2, ← cv.2.2]
  have k1 := cu.2.1
  have k2 := cv.2.1
  generalize C8 (B8 (A8 u)) = c at k1 ⊢
  generalize C8 (B8 (A8 v)) = d at k2 ⊢
  clear eA eB eC hp cu cv c2 b2 bu bv a2 au av
  have e1 : pcD (256 * c + d) = 257 * c + d := by unfold pcD; omega
  rw [e1]
  unfold pcE
  rw [show (257 * c + d) / 65536 = 0 by omega]
  omega
theorem pc_16 {n : Nat} (h : n < 65536) : pcE (pcD (pcC (pcB (pcA n)))) = pop 16 n := by
  have e := pc_uv (u := n / 256) (v := n % 256) (by omega) (by omega)
  rwa [show 256 * (n / 256) + n % 256 = n by omega] at e
theorem pop_cn : ∀ (k n : Nat), pop k n = cn (fun i => n.testBit i) k
  | 0, _ => rfl
  | k + 1, n => by
    show pop k (n / 2) + n % 2 = _
    rw [pop_cn k (n / 2)]
    have h : ∀ j, cn (fun i => n.testBit i) (j + 1) = cn (fun i => (n / 2).testBit i) j + n % 2 := by
      intro j
      induction j with
      | zero =>
        show 0 + (if n.testBit 0 = true then 1 else 0) = 0 + n % 2
        rw [Nat.testBit_zero]
        by_cases q : n % 2 = 1
        · rw [decide_eq_true q, if_pos rfl, q]
        · rw [decide_eq_false q, if_neg (by decide)]; omega
      | succ j ih =>
        show cn (fun i => n.testBit i) (j + 1) + (if n.testBit (j + 1) = true then 1 else 0) = cn (fun i => (n / 2).testBit i) j + (if (n / 2).testBit j = true then 1 else 0) + n % 2
        rw [ih, Nat.testBit_succ]
        omega
    exact (h k).symm
theorem bt_nI {n i : Nat} (h : n < 2 ^ 32) : bt (nI n) i = n.testBit i := by
  unfold bt
  show (BitVec.ofNat 32 n).getLsbD i = _
  rw [BitVec.getLsbD_ofNat]
  by_cases hi : i < 32
  · simp [hi]
  · simp only [hi, decide_false, Bool.false_and]
    exact (Nat.testBit_lt_two_pow (Nat.lt_of_lt_of_le h (Nat.pow_le_pow_right (by decide) (by omega)))).symm
/-- a word with no bit from 16 on is a number below 65536 -/
def lo16 (x : Int32) : Prop := ∀ i, 16 ≤ i → bt x i = false
theorem lo16_n {x : Int32} (h : lo16 x) : ∃ n, n < 65536 ∧ x = nI n := by
  refine ⟨x.toBitVec.toNat, ?_, ?_⟩
  · refine Nat.lt_pow_two_of_testBit (n := 16) _ (fun i hi => ?_)
    exact h i hi
  · apply Int32.toBitVec_inj.mp
    show x.toBitVec = BitVec.ofNat 32 x.toBitVec.toNat
    rw [BitVec.ofNat_toNat, BitVec.setWidth_eq]
theorem cn_tb {n : Nat} (h : n < 65536) : pop 16 n = cn (bt (nI n)) 16 := by
  rw [pop_cn]
  congr 1
  funext i
  exact (bt_nI (by omega)).symm
theorem lo_and {x y : Int32} (h : lo16 x) : lo16 (x &&& y) := fun i hi => by rw [b_and, h i hi, Bool.false_and]
theorem lo_or {x y : Int32} (h : lo16 x) (h2 : lo16 y) : lo16 (x ||| y) := fun i hi => by rw [b_or, h i hi, h2 i hi]; rfl
theorem lo_xor {x y : Int32} (h : lo16 x) (h2 : lo16 y) : lo16 (x ^^^ y) := fun i hi => by rw [b_xor, h i hi, h2 i hi]; rfl
theorem b_not (x : Int32) {i : Nat} (h : i < 32) : bt (x ^^^ (-1)) i = !bt x i := by rw [b_xor, b_m1 i h]; cases bt x i <;> rfl
theorem b_shl1 (x : Int32) {i : Nat} (hi : i < 32) : bt (x <<< ((1 : Int32) &&& 31)) i = (decide (1 ≤ i) && bt x (i - 1)) := b_shl 1 (by omega) x hi
theorem b_shr1 {x : Int32} (hx : lo16 x) {i : Nat} (hi : i < 32) : bt (x >>> ((1 : Int32) &&& 31)) i = bt x (i + 1) := by
  rw [show (1 : Int32) = nI 1 from rfl, b_sshr 1 (by omega) x hi]
  split
  · rw [Nat.add_comm]
  · rw [hx 31 (by omega), hx (i + 1) (by omega)]
theorem lo_shr {x : Int32} (hx : lo16 x) : lo16 (x >>> ((1 : Int32) &&& 31)) := fun i hi => by
  by_cases h : i < 32
  · rw [b_shr1 hx h, hx (i + 1) (by omega)]
  · exact b_big (by omega)
