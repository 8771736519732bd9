/-! the class: methods that reach no object -/
theorem st_entJ {l : Launch} {y : MethodName} {b : ByteArray} {n : Nat} {fr lo : Nat} {av : List Value} {post : Int32 → Prop} {own : String} (hy : plainFor y = true) (ho : y.cls = own) (hlen : (lg_sl av).length ≤ n)
    (body : ∀ (p : Program) (e : Env) (s : State) (m : MethodId) (args : Array Value) (below : List Frame) (meth : Method) (c : Code) (Q : State → Prop), CallFix p m c b n s args GW own → (∀ (pc : Nat) (ls : Array Slot) (v : Int32), decode b pc = .ok (.ireturn, 1) → post v → W p l e (rmOf fr lo) s m args below meth c s.heap [] 0 0 Q (F0 m pc ls [.int v])) → ∀ ls : Array Slot, lv_has ls n (lv_args 0 av) →
      W p l e (rmOf fr lo) s m args below meth c s.heap [] 0 0 Q (F0 m 0 ls [])) : SMi l y b n (some .int) fr lo av post := by
  refine va_MetF (cc := b) (maxL := n) (ret := some .int) hy rfl ?_
  intro p e s m args below meth c s₁ B hml hv
  have hv : args = av.toArray := hv
  subst hv
  have hts := atoms_spec (ws := wm y b n (some .int)) B.pre
  rw [lg_entry_eq]
  exact body p e s m _ below meth c _ ⟨B.exec, B.bytes, hml, by rw [← ho]; exact findClass_of_methodNamed B.named, fun w h => hts w (List.mem_cons_of_mem _ h)⟩ (fun pc ls v hdg hp => W.iret B.exec B.bytes B.returns (fun t ht _ => ⟨v, rfl, hp, ht⟩) (fun _ h => by cases h) hdg) _ (lv_entry av hlen)
def mnI (x y : Int) : Int := if y < x then y else x
theorem irem_eq (a b : Int32) : a - a / b * b = a % b := by
  apply Int32.toInt_inj.mp
  have h1 := Int32.le_toInt (a % b)
  have h2 := Int32.toInt_lt (a % b)
  rw [Int32.toInt_sub, Int32.toInt_mul, Int32.toInt_div, Int.bmod_mul_bmod, Int.sub_bmod_bmod, Int.mul_comm (a.toInt.tdiv b.toInt), ← Int.tmod_def, ← Int32.toInt_mod]
  exact Int.bmod_eq_of_le_mul_two (by omega) (by omega)
theorem imod_eq {v n : Int} (hn : 1 ≤ n) (hn2 : n ≤ 20) (h1 : -1000000 ≤ v) (h2 : v ≤ 1000000) : (iI v - iI v / iI n * iI n) = iI (v.tmod n) := by
  rw [irem_eq, ← Int32.toInt_inj, Int32.toInt_mod, iI_toInt (by omega) (by omega), iI_toInt (by omega) (by omega)]
  have h3 := Int.tmod_lt_of_pos v (show 0 < n by omega)
  have h4 := Int.lt_tmod_of_pos v (show 0 < n by omega)
  rw [iI_toInt (by omega) (by omega)]
theorem xor_sg {v n : Int} (hn : 1 ≤ n) (hn2 : n ≤ 20) (h1 : -1000000 ≤ v) (h2 : v ≤ 1000000) : (iI v ^^^ iI n) < 0 ↔ v < 0 := by
  have e1 : (iI n).toBitVec.msb = false := by
    rw [BitVec.msb_eq_toInt]
    show decide ((iI n).toInt < 0) = false
    rw [iI_toInt (by omega) (by omega)]
    exact decide_eq_false (by omega)
  have e2 : (iI v).toBitVec.msb = decide (v < 0) := by
    rw [BitVec.msb_eq_toInt]
    show decide ((iI v).toInt < 0) = decide (v < 0)
    rw [iI_toInt (by omega) (by omega)]
  have e3 : (iI v ^^^ iI n).toBitVec.msb = decide ((iI v ^^^ iI n).toInt < 0) := BitVec.msb_eq_toInt
  rw [Int32.toBitVec_xor, BitVec.msb_xor, e1, e2, Bool.xor_false] at e3
  rw [Int32.lt_iff_toInt_lt]
  show (iI v ^^^ iI n).toInt < 0 ↔ v < 0
  constructor
  · intro h; rw [decide_eq_true h] at e3; exact of_decide_eq_true e3
  · intro h; rw [decide_eq_true h] at e3; exact of_decide_eq_true e3.symm
def bc1 (x : Int32) : Int32 := x - ((x.toUInt32 >>> ((1 : Int32).toUInt32 &&& Int32.toUInt32 31)).toInt32 &&& 1431655765)
def bc2 (x : Int32) : Int32 := (x &&& 858993459) + ((x.toUInt32 >>> ((2 : Int32).toUInt32 &&& Int32.toUInt32 31)).toInt32 &&& 858993459)
def bc3 (x : Int32) : Int32 := (x + (x.toUInt32 >>> ((4 : Int32).toUInt32 &&& Int32.toUInt32 31)).toInt32) &&& 252645135
def bc4 (x : Int32) : Int32 := x + (x.toUInt32 >>> ((8 : Int32).toUInt32 &&& Int32.toUInt32 31)).toInt32
def bc5 (x : Int32) : Int32 := (x + (x.toUInt32 >>> ((16 : Int32).toUInt32 &&& Int32.toUInt32 31)).toInt32) &&& 63
theorem bc_n {n : Nat} (h : n < 65536) : bc5 (bc4 (bc3 (bc2 (bc1 (nI n))))) = nI (pcE (pcD (pcC (pcB (pcA n))))) := by
  have a0 : ∀ x y : Nat, x &&& y ≤ x := fun x y => Nat.and_le_left
  have e1 : bc1 (nI n) = nI (pcA n) := by
    unfold bc1 pcA
    rw [pk_ushrN (n := n) (by omega) 1 1 rfl, show (1431655765 : Int32) = nI 1431655765 from rfl, nx_and, pk_sub (by have := a0 (n / 2 ^ 1) 1431655765; omega)]
  have b1 : pcA n ≤ n := Nat.sub_le _ _
  have e2 : bc2 (nI (pcA n)) = nI (pcB (pcA n)) := by
    unfold bc2 pcB
    rw [pk_ushrN (n := pcA n) (by omega) 2 2 rfl, show (858993459 : Int32) = nI 858993459 from rfl, nx_and, nx_and, nI_add]
  have b2 : pcB (pcA n) ≤ 131072 := by
    unfold pcB
    have := a0 (pcA n) 858993459
    have := a0 (pcA n / 4) 858993459
    omega
  have e3 : bc3 (nI (pcB (pcA n))) = nI (pcC (pcB (pcA n))) := by
    unfold bc3 pcC
    rw [pk_ushrN (n := pcB (pcA n)) (by omega) 4 4 rfl, show (252645135 : Int32) = nI 252645135 from rfl, nI_add, nx_and]
  have b3 : pcC (pcB (pcA n)) ≤ 262144 := by
    unfold pcC
    have := a0 (pcB (pcA n) + pcB (pcA n) / 16) 252645135
    omega
  have e4 : bc4 (nI (pcC (pcB (pcA n)))) = nI (pcD (pcC (pcB (pcA n)))) := by
    unfold bc4 pcD
    rw [pk_ushrN (n := pcC (pcB (pcA n))) (by omega) 8 8 rfl, nI_add]
  have b4 : pcD (pcC (pcB (pcA n))) ≤ 524288 := by unfold pcD; omega
  have e5 : bc5 (nI (pcD (pcC (pcB (pcA n))))) = nI (pcE (pcD (pcC (pcB (pcA n))))) := by
    unfold bc5 pcE
    rw [pk_ushrN (n := pcD (pcC (pcB (pcA n)))) (by omega) 16 16 rfl, nI_add, pk_andN (by omega) 6 rfl]
  rw [e1, e2, e3, e4, e5]
theorem bc_eq {x : Int32} (h : lo16 x) : bc5 (bc4 (bc3 (bc2 (bc1 x)))) = nI (cn (bt x) 16) := by
  obtain ⟨n, hn, rfl⟩ := lo16_n h
  rw [bc_n hn, pc_16 hn, cn_tb hn]
def tzf : Nat → Nat → Nat
  | 0, _ => 0
  | k + 1, n => if n % 2 = 1 then 0 else tzf k (n / 2) + 1
theorem tz_lt : ∀ (k n : Nat), 0 < n → n < 2 ^ k → tzf k n < k
  | 0, n, h0, h => by omega
  | k + 1, n, h0, h => by
    unfold tzf
    split
    · omega
    · have := tz_lt k (n / 2) (by omega) (by rw [Nat.pow_succ] at h; omega)
      omega
theorem tz_pred : ∀ (k n : Nat), 0 < n → n < 2 ^ k → ∀ i, (n - 1).testBit i = if i < tzf k n then true else if i = tzf k n then false else n.testBit i
  | 0, n, h0, h, i => by omega
  | k + 1, n, h0, h, i => by
    unfold tzf
    by_cases q : n % 2 = 1
    · rw [if_pos q, if_neg (Nat.not_lt_zero _)]
      cases i with
      | zero => rw [if_pos rfl, Nat.testBit_zero, decide_eq_false (by omega)]
      | succ i => rw [if_neg (by omega), Nat.testBit_succ, Nat.testBit_succ, show (n - 1) / 2 = n / 2 by omega]
    · rw [if_neg q]
      have ih := tz_pred k (n / 2) (by omega) (by rw [Nat.pow_succ] at h; omega)
      cases i with
      | zero => rw [if_pos (by omega), Nat.testBit_zero, decide_eq_true (by omega)]
      | succ i =>
        rw [Nat.testBit_succ, Nat.testBit_succ, show (n - 1) / 2 = n / 2 - 1 by omega, ih i]
        by_cases a : i < tzf k (n / 2)
        · rw [if_pos a, if_pos (show i + 1 < tzf k (n / 2) + 1 by omega)]
        · rw [if_neg a, if_neg (show ¬ i + 1 < tzf k (n / 2) + 1 by omega)]
          by_cases b : i = tzf k (n / 2)
          · rw [if_pos b, if_pos (show i + 1 = tzf k (n / 2) + 1 by omega)]
          · rw [if_neg b, if_neg (show ¬ i + 1 = tzf k (n / 2) + 1 by omega)]
theorem tz_bit : ∀ (k n : Nat), 0 < n → n < 2 ^ k → n.testBit (tzf k n) = true ∧ ∀ j, j < tzf k n → n.testBit j = false
  | 0, n, h0, h => by omega
  | k + 1, n, h0, h => by
    unfold tzf
    split
    next q => exact ⟨by rw [Nat.testBit_zero, decide_eq_true q], fun j hj => by omega⟩
    next q =>
      have ih := tz_bit k (n / 2) (by omega) (by rw [Nat.pow_succ] at h; omega)
      refine ⟨by rw [Nat.testBit_succ]; exact ih.1, fun j hj => ?_⟩
      cases j with
      | zero => rw [Nat.testBit_zero, decide_eq_false q]
      | succ j => rw [Nat.testBit_succ]; exact ih.2 j (by omega)
theorem tz_16 {n : Nat} (h : n < 65536) (h0 : 0 < n) : (n ^^^ 4294967295) &&& (n - 1) = 2 ^ tzf 16 n - 1 ∧ tzf 16 n < 16 := by
  have hl := tz_lt 16 n h0 h
  have hb := tz_bit 16 n h0 h
  refine ⟨?_, hl⟩
  apply Nat.eq_of_testBit_eq
  intro i
  rw [Nat.testBit_and, Nat.testBit_xor, show (4294967295 : Nat) = 2 ^ 32 - 1 from rfl, Nat.testBit_two_pow_sub_one, Nat.testBit_two_pow_sub_one, tz_pred 16 n h0 h i]
  by_cases a : i < tzf 16 n
  · rw [if_pos a, hb.2 i a, decide_eq_true a, decide_eq_true (show i < 32 by omega)]; rfl
  · rw [if_neg a, decide_eq_false a]
    by_cases b : i = tzf 16 n
    · rw [if_pos b, Bool.and_false]
    · rw [if_neg b]
      by_cases c : i < 32
      · rw [decide_eq_true c]; cases n.testBit i <;> rfl
      · rw [Nat.testBit_lt_two_pow (Nat.lt_of_lt_of_le h (Nat.pow_le_pow_right (show 0 < 2 by decide) (show 16 ≤ i by omega))), Bool.and_false]
theorem tz_m : ∀ t, t < 16 → 2 ^ t - 1 < 32768 := by decide
theorem iI_pd {n : Nat} (h : 0 < n) : iI ((↑n : Int) - 1) = nI (n - 1) := by
  rw [nI_iI]
  congr 1
  omega
theorem tz_raw {n : Nat} (h : n < 65536) (h0 : 0 < n) : (nI n ^^^ (-1)) &&& iI ((↑n : Int) - 1) = nI (2 ^ tzf 16 n - 1) := by
  rw [show (-1 : Int32) = nI 4294967295 from rfl, nx_xor, iI_pd h0, nx_and, (tz_16 h h0).1]
def gr1 (row x : Int32) : Int32 := x ||| (((x <<< ((1 : Int32) &&& 31)) ||| (x >>> ((1 : Int32) &&& 31))) &&& row)
def grN (row x : Int32) : Nat → Int32
  | 0 => x
  | k + 1 => gr1 row (grN row x k)
def rpl (y z : Int) : Int := if (-7 ≤ y ∧ y ≤ 7) ∧ (-7 ≤ z ∧ z ≤ 7) then 15 * (z + 7) + (y + 7) else -1
def lsN (k i : Nat) : Int := if k = 9 then 1 else if k = 0 ∧ i = 3 then 0 else -20
theorem tz_fin : ∀ t, t < 16 → ¬ 0 < 2 ^ t - 1 → t = 0 := by decide
def tzs (c s : Nat) (p : Nat × Nat) : Nat × Nat := if c < p.2 then (p.1 + s, p.2 / 2 ^ s) else p
def tzr (m : Nat) : Nat := (tzs 4 2 (tzs 16 4 (tzs 256 8 (tzs 65536 16 (1, m))))).1 + (tzs 4 2 (tzs 16 4 (tzs 256 8 (tzs 65536 16 (1, m))))).2 / 2
theorem tzr_ok : ∀ t, t < 16 → 0 < t → tzr (2 ^ t - 1) = t := by decide +kernel
theorem tz_pos {t m : Nat} (h : 2 ^ t - 1 = m) (h0 : 0 < m) : 0 < t := by
  rcases Nat.eq_zero_or_pos t with q | q
  · rw [q] at h; omega
  · exact q
def eg4 (ra rb rc rd : Int32) : Int32 := (ra ^^^ rb) &&& (rb ^^^ rc) &&& (rc ^^^ rd)
def eg1 (ra rb rc rd : Int32) : Int32 := (ra ||| rb ||| rc ||| rd) &&& ((ra &&& rb &&& rc &&& rd) ^^^ (-1))
def egs (f : Int32) (ra rb rc rd : Int32) : Nat := cn (bt (if f = 0 then eg1 ra rb rc rd else eg4 ra rb rc rd)) 16
theorem lo_eg4 {ra rb rc rd : Int32} (h1 : lo16 ra) (h2 : lo16 rb) : lo16 (eg4 ra rb rc rd) := lo_and (lo_and (lo_xor h1 h2))
theorem lo_eg1 {ra rb rc rd : Int32} (h1 : lo16 ra) (h2 : lo16 rb) (h3 : lo16 rc) (h4 : lo16 rd) : lo16 (eg1 ra rb rc rd) := lo_and (lo_or (lo_or (lo_or h1 h2) h3) h4)
/-- clearing the least bit -/
theorem clr_bit : ∀ (k n i : Nat), n < 2 ^ k → (n &&& (n - 1)).testBit i = (n.testBit i && decide (∃ j, j < i ∧ n.testBit j = true))
  | 0, n, i, h => by
    obtain rfl : n = 0 := by omega
    simp
  | k + 1, n, i, h => by
    by_cases q : n % 2 = 1
    · have e : n - 1 = 2 * (n / 2) := by omega
      cases i with
      | zero =>
        rw [Nat.testBit_and, e]
        have : ¬ ∃ j, j < 0 ∧ n.testBit j = true := fun ⟨j, hj, _⟩ => by omega
        rw [decide_eq_false this, Nat.testBit_zero (x := 2 * (n / 2)), decide_eq_false (by omega), Bool.and_false]
      | succ i =>
        have : ∃ j, j < i + 1 ∧ n.testBit j = true := ⟨0, by omega, by rw [Nat.testBit_zero, decide_eq_true q]⟩
        rw [decide_eq_true this, Bool.and_true, Nat.testBit_and, e, Nat.testBit_succ (x := 2 * (n / 2)), Nat.testBit_succ, show 2 * (n / 2) / 2 = n / 2 by omega, Bool.and_self]
    · by_cases z : n = 0
      · subst z; simp
      have ih := clr_bit k (n / 2) 
      cases i with
      | zero =>
        rw [Nat.testBit_and, Nat.testBit_zero (x := n), decide_eq_false q, Bool.false_and, Bool.false_and]
      | succ i =>
        rw [Nat.testBit_and, Nat.testBit_succ, Nat.testBit_succ, show (n - 1) / 2 = n / 2 - 1 by omega, ← Nat.testBit_and, ih i (by rw [Nat.pow_succ] at h; omega)]
        congr 1
        rw [decide_eq_decide]
        constructor
        · rintro ⟨j, hj, h2⟩; exact ⟨j + 1, by omega, by rw [Nat.testBit_succ]; exact h2⟩
        · rintro ⟨j, hj, h2⟩
          cases j with
          | zero => rw [Nat.testBit_zero] at h2; exact absurd (of_decide_eq_true h2) q
          | succ j => exact ⟨j, by omega, by rw [Nat.testBit_succ] at h2; exact h2⟩
/-- n with its k least bits cleared -/
def clN (n : Nat) : Nat → Nat
  | 0 => n
  | k + 1 => clN n k &&& (clN n k - 1)
theorem clN_lt {n : Nat} (h : n < 65536) : ∀ k, clN n k < 65536
  | 0 => h
  | k + 1 => Nat.lt_of_le_of_lt Nat.and_le_left (clN_lt h k)
theorem cn_mono {p : Nat → Bool} {i j : Nat} (h : i ≤ j) : cn p i ≤ cn p j := by
  induction j with
  | zero => rw [show i = 0 by omega]; exact Nat.le_refl _
  | succ j ih =>
    by_cases e : i = j + 1
    · rw [e]; exact Nat.le_refl _
    · have := ih (by omega)
      show _ ≤ cn p j + _
      omega
theorem cn_ex {p : Nat → Bool} : ∀ {i k : Nat}, k < cn p i → ∃ j, j < i ∧ p j = true ∧ cn p j = k
  | 0, k, h => by exact absurd h (Nat.not_lt_zero _)
  | i + 1, k, h => by
    by_cases q : k < cn p i
    · obtain ⟨j, h1, h2⟩ := cn_ex q; exact ⟨j, by omega, h2⟩
    · have h' : k < cn p i + (if p i = true then 1 else 0) := h
      by_cases e : p i = true
      · rw [if_pos e] at h'; exact ⟨i, by omega, e, by omega⟩
      · rw [if_neg e] at h'; exact absurd h' (by omega)
theorem clN_bit {n : Nat} (h : n < 65536) : ∀ (k i : Nat), (clN n k).testBit i = (n.testBit i && decide (k ≤ cn (fun j => n.testBit j) i))
  | 0, i => by rw [decide_eq_true (Nat.zero_le _), Bool.and_true]; rfl
  | k + 1, i => by
    show (clN n k &&& (clN n k - 1)).testBit i = _
    rw [clr_bit 16 _ i (clN_lt h k), clN_bit h k i, Bool.and_assoc]
    congr 1
    rw [← Bool.decide_and, decide_eq_decide]
    constructor
    · rintro ⟨h1, j, hj, h2⟩
      rw [clN_bit h k j, Bool.and_eq_true] at h2
      have h3 := of_decide_eq_true h2.2
      have : cn (fun j => n.testBit j) (j + 1) ≤ cn (fun j => n.testBit j) i := cn_mono (by omega)
      rw [cn_yes (p := fun j => n.testBit j) h2.1] at this
      omega
    · intro h1
      refine ⟨by omega, ?_⟩
      obtain ⟨j, hj, h2, h3⟩ := cn_ex (p := fun j => n.testBit j) (i := i) (k := k) (by omega)
      exact ⟨j, hj, by rw [clN_bit h k j, h2, h3, decide_eq_true (Nat.le_refl _)]; rfl⟩
theorem clN_tz {n k : Nat} (h : n < 65536) (hk : k < cn (fun j => n.testBit j) 16) : 0 < clN n k ∧ n.testBit (tzf 16 (clN n k)) = true ∧ cn (fun j => n.testBit j) (tzf 16 (clN n k)) = k ∧ tzf 16 (clN n k) < 16 := by
  obtain ⟨j, hj, h2, h3⟩ := cn_ex hk
  have hb : (clN n k).testBit j = true := by rw [clN_bit h k j, h3, decide_eq_true (Nat.le_refl _)]; simpa using h2
  have h0 : 0 < clN n k := by
    rcases Nat.eq_zero_or_pos (clN n k) with q | q
    · rw [q, Nat.zero_testBit] at hb; cases hb
    · exact q
  have ht := tz_bit 16 (clN n k) h0 (clN_lt h k)
  have ht1 := ht.1
  rw [clN_bit h k, Bool.and_eq_true] at ht1
  have h4 := of_decide_eq_true ht1.2
  have hle : tzf 16 (clN n k) ≤ j := by
    rcases Nat.lt_or_ge j (tzf 16 (clN n k)) with q | q
    · rw [ht.2 j q] at hb; cases hb
    · exact q
  have h5 : cn (fun j => n.testBit j) (tzf 16 (clN n k)) ≤ cn (fun j => n.testBit j) j := cn_mono hle
  exact ⟨h0, ht1.1, by omega, by omega⟩
theorem fm_neg {v n : Int} (hn : 1 ≤ n) (h : v < 0) (h0 : ¬ v.tmod n = 0) : v.tmod n < 0 := by
  have h5 := Int.tmod_nonneg n (show 0 ≤ -v by omega)
  rw [Int.neg_tmod] at h5
  omega
theorem fm_pos {v n : Int} (h : ¬ v < 0) : ¬ v.tmod n < 0 := by
  have h5 := Int.tmod_nonneg n (show 0 ≤ v by omega)
  omega
theorem clN_step {n : Nat} (h : n < 65536) (k : Nat) (hp : 0 < clN n k) : nI (clN n k) &&& iI ((↑(clN n k) : Int) - 1) = nI (clN n (k + 1)) := by
  rw [iI_pd hp, nx_and]
  rfl
def sqB (f t : Int) (h : Int32) : Int := if h = 0 then (if f ≤ 0 ∧ 0 ≤ t then 0 else mnI (f * f) (t * t)) else mx (f * f) (t * t)
set_option maxHeartbeats 400000 in
set_option maxRecDepth 100000 in
theorem c_Ma_max (l : Launch) (x : Int) (y : Int)  (h1 : -2147483648 ≤ x) (h2 : x < 2147483648) (h3 : -2147483648 ≤ y) (h4 : y < 2147483648) : SMi l y_Ma_max b_Ma_max 2 (some .int) 0 0 [.int (iI x), .int (iI y)] (fun r => r = iI (mx x y)) := by
  refine st_entJ (own := R_Ma) (by decide +kernel) rfl (Nat.le_of_ble_eq_true rfl) ?_
  intro p e s m args below meth c Q hC hret ls hl
  have hx := hC.1
  have hb := hC.2.1
  replace hl : lv_has ls 2 [(0, .int (iI x)), (1, .int (iI y))] := hl
  refine lv_iload_n hx hb d_Ma_max_0 rfl (lv_at hl 0 rfl) ?_
  refine lv_iload_n hx hb d_Ma_max_1 rfl (lv_at hl 1 rfl) ?_
  refine zc_lt hx hb x y (by omega) (by omega) (by omega) (by omega) d_Ma_max_2 (tgt := 9) (by decide) (fun h5 => ?_) (fun h5 => ?_)
  · skip
    refine lv_iload_n hx hb d_Ma_max_9 rfl (lv_at hl 1 rfl) ?_
    exact hret _ _ _ d_Ma_max_10 (by rw [mx, if_pos h5])
  · skip
    refine lv_iload_n hx hb d_Ma_max_5 rfl (lv_at hl 0 rfl) ?_
    refine lv_goto (tgt := 10) hx hb d_Ma_max_6 (by decide) ?_
    exact hret _ _ _ d_Ma_max_10 (by rw [mx, if_neg h5])
set_option maxHeartbeats 400000 in
set_option maxRecDepth 100000 in
theorem c_Ma_min (l : Launch) (x : Int) (y : Int)  (h1 : -2147483648 ≤ x) (h2 : x < 2147483648) (h3 : -2147483648 ≤ y) (h4 : y < 2147483648) : SMi l y_Ma_min b_Ma_min 2 (some .int) 0 0 [.int (iI x), .int (iI y)] (fun r => r = iI (mnI x y)) := by
  refine st_entJ (own := R_Ma) (by decide +kernel) rfl (Nat.le_of_ble_eq_true rfl) ?_
  intro p e s m args below meth c Q hC hret ls hl
  have hx := hC.1
  have hb := hC.2.1
  replace hl : lv_has ls 2 [(0, .int (iI x)), (1, .int (iI y))] := hl
  refine lv_iload_n hx hb d_Ma_min_0 rfl (lv_at hl 0 rfl) ?_
  refine lv_iload_n hx hb d_Ma_min_1 rfl (lv_at hl 1 rfl) ?_
  refine zc_gt hx hb x y (by omega) (by omega) (by omega) (by omega) d_Ma_min_2 (tgt := 9) (by decide) (fun h5 => ?_) (fun h5 => ?_)
  · skip
    refine lv_iload_n hx hb d_Ma_min_9 rfl (lv_at hl 1 rfl) ?_
    exact hret _ _ _ d_Ma_min_10 (by rw [mnI, if_pos h5])
  · skip
    refine lv_iload_n hx hb d_Ma_min_5 rfl (lv_at hl 0 rfl) ?_
    refine lv_goto (tgt := 10) hx hb d_Ma_min_6 (by decide) ?_
    exact hret _ _ _ d_Ma_min_10 (by rw [mnI, if_neg h5])
set_option maxHeartbeats 400000 in
set_option maxRecDepth 100000 in
theorem c_Ma_floorMod (l : Launch) (v : Int) (n : Int)  (hn : 1 ≤ n) (hn2 : n ≤ 20) (hv1 : -1000000 ≤ v) (hv2 : v ≤ 1000000) : SMi l y_Ma_floorMod b_Ma_floorMod 3 (some .int) 0 0 [.int (iI v), .int (iI n)] (fun r => r = iI (v % n)) := by
  refine st_entJ (own := R_Ma) (by decide +kernel) rfl (Nat.le_of_ble_eq_true rfl) ?_
  intro p e s m args below meth c Q hC hret ls hl
  have hx := hC.1
  have hb := hC.2.1
  replace hl : lv_has ls 3 [(0, .int (iI v)), (1, .int (iI n))] := hl
  refine lv_iload_n hx hb d_Ma_floorMod_0 rfl (lv_at hl 0 rfl) ?_
  refine lv_iload_n hx hb d_Ma_floorMod_1 rfl (lv_at hl 1 rfl) ?_
  refine lv_irem hx hb d_Ma_floorMod_2 (fun e => by rw [iI_lit, iI_eq (by omega) (by omega) (by omega) (by omega)] at e; omega) ?_
  refine topi_eq (imod_eq hn hn2 hv1 hv2) ?_
  refine lv_istore_n (lv' := [(2, .int (iI (v.tmod n))), (0, .int (iI v)), (1, .int (iI n))]) hx hb d_Ma_floorMod_3 rfl hl (by decide) rfl (fun ls hl => ?_)
  refine lv_iload_n hx hb d_Ma_floorMod_4 rfl (lv_at hl 1 rfl) ?_
  refine lv_iload_n hx hb d_Ma_floorMod_5 rfl (lv_at hl 2 rfl) ?_
  refine lv_ixor hx hb d_Ma_floorMod_6 ?_
  refine iz_ge (tgt := 18) hx hb d_Ma_floorMod_7 (by decide) (fun h1 => ?_) (fun h1 => ?_)
  · skip
    refine lv_iload_n hx hb d_Ma_floorMod_18 rfl (lv_at hl 0 rfl) ?_
    exact hret _ _ _ d_Ma_floorMod_19 (by rw [emod_t hn]; have hq := xor_sg hn hn2 hv1 hv2; have := Int.tmod_lt_of_pos v (show 0 < n by omega); have := Int.lt_tmod_of_pos v (show 0 < n by omega); rw [if_neg (by first | exact fm_pos (fun z => (by assumption : ¬ (iI v ^^^ iI n) < 0) (hq.mpr z)) | omega)])
  · skip
    refine lv_iload_n hx hb d_Ma_floorMod_10 rfl (lv_at hl 0 rfl) ?_
    refine zz_eq hx hb (v.tmod n) (by have := Int.tmod_lt_of_pos v (show 0 < n by omega); have := Int.lt_tmod_of_pos v (show 0 < n by omega); omega) (by have := Int.tmod_lt_of_pos v (show 0 < n by omega); have := Int.lt_tmod_of_pos v (show 0 < n by omega); omega) d_Ma_floorMod_11 (tgt := 18) (by decide) (fun h2 => ?_) (fun h2 => ?_)
    · skip
      refine lv_iload_n hx hb d_Ma_floorMod_18 rfl (lv_at hl 0 rfl) ?_
      exact hret _ _ _ d_Ma_floorMod_19 (by rw [emod_t hn]; have hq := xor_sg hn hn2 hv1 hv2; have := Int.tmod_lt_of_pos v (show 0 < n by omega); have := Int.lt_tmod_of_pos v (show 0 < n by omega); rw [if_neg (by first | exact fm_pos (fun z => (by assumption : ¬ (iI v ^^^ iI n) < 0) (hq.mpr z)) | omega)])
    · skip
      refine lv_iload_n hx hb d_Ma_floorMod_14 rfl (lv_at hl 0 rfl) ?_
      refine lv_iload_n hx hb d_Ma_floorMod_15 rfl (lv_at hl 2 rfl) ?_
      refine lv_iadd hx hb d_Ma_floorMod_16 ?_
      refine topi_eq (iI_add (v.tmod n) n) ?_
      exact hret _ _ _ d_Ma_floorMod_17 (by rw [emod_t hn]; have hq := xor_sg hn hn2 hv1 hv2; have := Int.tmod_lt_of_pos v (show 0 < n by omega); have := Int.lt_tmod_of_pos v (show 0 < n by omega); rw [if_pos (fm_neg hn (hq.mp (by assumption)) (by assumption))])
set_option maxHeartbeats 400000 in
set_option maxRecDepth 100000 in
theorem c_In_bitCount (l : Launch) (x : Int32)  (hlo : lo16 x) : SMi l y_In_bitCount b_In_bitCount 1 (some .int) 0 0 [.int x] (fun r => r = nI (cn (bt x) 16)) := by
  refine st_entJ (own := R_In) (by decide +kernel) rfl (Nat.le_of_ble_eq_true rfl) ?_
  intro p e s m args below meth c Q hC hret ls hl
  have hx := hC.1
  have hb := hC.2.1
  replace hl : lv_has ls 1 [(0, .int x)] := hl
  refine lv_iload_n hx hb d_In_bitCount_0 rfl (lv_at hl 0 rfl) ?_
  refine lv_iload_n hx hb d_In_bitCount_1 rfl (lv_at hl 0 rfl) ?_
  refine lv_iconst (v := 1) hx hb d_In_bitCount_2 (by decide) ?_
  refine lv_iushr hx hb d_In_bitCount_3 rfl ?_
  refine lv_ldcw (v := 1431655765) hx hb hC.2.2.2.1 (hC.2.2.2.2 _ wx_In_265) d_In_bitCount_4 ?_
  refine lv_iand hx hb d_In_bitCount_7 ?_
  refine lv_isub hx hb d_In_bitCount_8 ?_
  refine lv_istore_n (lv' := [(0, .int (x - (((x.toUInt32 >>> ((1 : Int32).toUInt32 &&& Int32.toUInt32 31)).toInt32) &&& 1431655765)))]) hx hb d_In_bitCount_9 rfl hl (by decide) rfl (fun ls hl => ?_)
  refine lv_iload_n hx hb d_In_bitCount_10 rfl (lv_at hl 0 rfl) ?_
  refine lv_ldcw (v := 858993459) hx hb hC.2.2.2.1 (hC.2.2.2.2 _ wx_In_266) d_In_bitCount_11 ?_
  refine lv_iand hx hb d_In_bitCount_14 ?_
  refine lv_iload_n hx hb d_In_bitCount_15 rfl (lv_at hl 0 rfl) ?_
  refine lv_iconst (v := 2) hx hb d_In_bitCount_16 (by decide) ?_
  refine lv_iushr hx hb d_In_bitCount_17 rfl ?_
  refine lv_ldcw (v := 858993459) hx hb hC.2.2.2.1 (hC.2.2.2.2 _ wx_In_266) d_In_bitCount_18 ?_
  refine lv_iand hx hb d_In_bitCount_21 ?_
  refine lv_iadd hx hb d_In_bitCount_22 ?_
  refine lv_istore_n (lv' := [(0, .int (((x - (((x.toUInt32 >>> ((1 : Int32).toUInt32 &&& Int32.toUInt32 31)).toInt32) &&& 1431655765)) &&& 858993459) + ((((x - (((x.toUInt32 >>> ((1 : Int32).toUInt32 &&& Int32.toUInt32 31)).toInt32) &&& 1431655765)).toUInt32 >>> ((2 : Int32).toUInt32 &&& Int32.toUInt32 31)).toInt32) &&& 858993459)))]) hx hb d_In_bitCount_23 rfl hl (by decide) rfl (fun ls hl => ?_)
  refine lv_iload_n hx hb d_In_bitCount_24 rfl (lv_at hl 0 rfl) ?_
  refine lv_iload_n hx hb d_In_bitCount_25 rfl (lv_at hl 0 rfl) ?_
  refine lv_iconst (v := 4) hx hb d_In_bitCount_26 (by decide) ?_
  refine lv_iushr hx hb d_In_bitCount_27 rfl ?_
  refine lv_iadd hx hb d_In_bitCount_28 ?_
  refine lv_ldcw (v := 252645135) hx hb hC.2.2.2.1 (hC.2.2.2.2 _ wx_In_267) d_In_bitCount_29 ?_
  refine lv_iand hx hb d_In_bitCount_32 ?_
  refine lv_istore_n (lv' := [(0, .int (((((x - (((x.toUInt32 >>> ((1 : Int32).toUInt32 &&& Int32.toUInt32 31)).toInt32) &&& 1431655765)) &&& 858993459) + ((((x - (((x.toUInt32 >>> ((1 : Int32).toUInt32 &&& Int32.toUInt32 31)).toInt32) &&& 1431655765)).toUInt32 >>> ((2 : Int32).toUInt32 &&& Int32.toUInt32 31)).toInt32) &&& 858993459)) + (((((x - (((x.toUInt32 >>> ((1 : Int32).toUInt32 &&& Int32.toUInt32 31)).toInt32) &&& 1431655765)) &&& 858993459) + ((((x - (((x.toUInt32 >>> ((1 : Int32).toUInt32 &&& Int32.toUInt32 31)).toInt32) &&& 1431655765)).toUInt32 >>> ((2 : Int32).toUInt32 &&& Int32.toUInt32 31)).toInt32) &&& 858993459)).toUInt32 >>> ((4 : Int32).toUInt32 &&& Int32.toUInt32 31)).toInt32)) &&& 252645135))]) hx hb d_In_bitCount_33 rfl hl (by decide) rfl (fun ls hl => ?_)
  refine lv_iload_n hx hb d_In_bitCount_34 rfl (lv_at hl 0 rfl) ?_
  refine lv_iload_n hx hb d_In_bitCount_35 rfl (lv_at hl 0 rfl) ?_
  refine lv_bipush (v := 8) hx hb d_In_bitCount_36 (by decide) ?_
  refine lv_iushr hx hb d_In_bitCount_38 rfl ?_
  refine lv_iadd hx hb d_In_bitCount_39 ?_
  refine lv_istore_n (lv' := [(0, .int ((((((x - (((x.toUInt32 >>> ((1 : Int32).toUInt32 &&& Int32.toUInt32 31)).toInt32) &&& 1431655765)) &&& 858993459) + ((((x - (((x.toUInt32 >>> ((1 : Int32).toUInt32 &&& Int32.toUInt32 31)).toInt32) &&& 1431655765)).toUInt32 >>> ((2 : Int32).toUInt32 &&& Int32.toUInt32 31)).toInt32) &&& 858993459)) + (((((x - (((x.toUInt32 >>> ((1 : Int32).toUInt32 &&& Int32.toUInt32 31)).toInt32) &&& 1431655765)) &&& 858993459) + ((((x - (((x.toUInt32 >>> ((1 : Int32).toUInt32 &&& Int32.toUInt32 31)).toInt32) &&& 1431655765)).toUInt32 >>> ((2 : Int32).toUInt32 &&& Int32.toUInt32 31)).toInt32) &&& 858993459)).toUInt32 >>> ((4 : Int32).toUInt32 &&& Int32.toUInt32 31)).toInt32)) &&& 252645135) + (((((((x - (((x.toUInt32 >>> ((1 : Int32).toUInt32 &&& Int32.toUInt32 31)).toInt32) &&& 1431655765)) &&& 858993459) + ((((x - (((x.toUInt32 >>> ((1 : Int32).toUInt32 &&& Int32.toUInt32 31)).toInt32) &&& 1431655765)).toUInt32 >>> ((2 : Int32).toUInt32 &&& Int32.toUInt32 31)).toInt32) &&& 858993459)) + (((((x - (((x.toUInt32 >>> ((1 : Int32).toUInt32 &&& Int32.toUInt32 31)).toInt32) &&& 1431655765)) &&& 858993459) + ((((x - (((x.toUInt32 >>> ((1 : Int32).toUInt32 &&& Int32.toUInt32 31)).toInt32) &&& 1431655765)).toUInt32 >>> ((2 : Int32).toUInt32 &&& Int32.toUInt32 31)).toInt32) &&& 858993459)).toUInt32 >>> ((4 : Int32).toUInt32 &&& Int32.toUInt32 31)).toInt32)) &&& 252645135).toUInt32 >>> ((8 : Int32).toUInt32 &&& Int32.toUInt32 31)).toInt32)))]) hx hb d_In_bitCount_40 rfl hl (by decide) rfl (fun ls hl => ?_)
  refine lv_iload_n hx hb d_In_bitCount_41 rfl (lv_at hl 0 rfl) ?_
  refine lv_iload_n hx hb d_In_bitCount_42 rfl (lv_at hl 0 rfl) ?_
  refine lv_bipush (v := 16) hx hb d_In_bitCount_43 (by decide) ?_
  refine lv_iushr hx hb d_In_bitCount_45 rfl ?_
  refine lv_iadd hx hb d_In_bitCount_46 ?_
  refine lv_istore_n (lv' := [(0, .int (((((((x - (((x.toUInt32 >>> ((1 : Int32).toUInt32 &&& Int32.toUInt32 31)).toInt32) &&& 1431655765)) &&& 858993459) + ((((x - (((x.toUInt32 >>> ((1 : Int32).toUInt32 &&& Int32.toUInt32 31)).toInt32) &&& 1431655765)).toUInt32 >>> ((2 : Int32).toUInt32 &&& Int32.toUInt32 31)).toInt32) &&& 858993459)) + (((((x - (((x.toUInt32 >>> ((1 : Int32).toUInt32 &&& Int32.toUInt32 31)).toInt32) &&& 1431655765)) &&& 858993459) + ((((x - (((x.toUInt32 >>> ((1 : Int32).toUInt32 &&& Int32.toUInt32 31)).toInt32) &&& 1431655765)).toUInt32 >>> ((2 : Int32).toUInt32 &&& Int32.toUInt32 31)).toInt32) &&& 858993459)).toUInt32 >>> ((4 : Int32).toUInt32 &&& Int32.toUInt32 31)).toInt32)) &&& 252645135) + (((((((x - (((x.toUInt32 >>> ((1 : Int32).toUInt32 &&& Int32.toUInt32 31)).toInt32) &&& 1431655765)) &&& 858993459) + ((((x - (((x.toUInt32 >>> ((1 : Int32).toUInt32 &&& Int32.toUInt32 31)).toInt32) &&& 1431655765)).toUInt32 >>> ((2 : Int32).toUInt32 &&& Int32.toUInt32 31)).toInt32) &&& 858993459)) + (((((x - (((x.toUInt32 >>> ((1 : Int32).toUInt32 &&& Int32.toUInt32 31)).toInt32) &&& 1431655765)) &&& 858993459) + ((((x - (((x.toUInt32 >>> ((1 : Int32).toUInt32 &&& Int32.toUInt32 31)).toInt32) &&& 1431655765)).toUInt32 >>> ((2 : Int32).toUInt32 &&& Int32.toUInt32 31)).toInt32) &&& 858993459)).toUInt32 >>> ((4 : Int32).toUInt32 &&& Int32.toUInt32 31)).toInt32)) &&& 252645135).toUInt32 >>> ((8 : Int32).toUInt32 &&& Int32.toUInt32 31)).toInt32)) + ((((((((x - (((x.toUInt32 >>> ((1 : Int32).toUInt32 &&& Int32.toUInt32 31)).toInt32) &&& 1431655765)) &&& 858993459) + ((((x - (((x.toUInt32 >>> ((1 : Int32).toUInt32 &&& Int32.toUInt32 31)).toInt32) &&& 1431655765)).toUInt32 >>> ((2 : Int32).toUInt32 &&& Int32.toUInt32 31)).toInt32) &&& 858993459)) + (((((x - (((x.toUInt32 >>> ((1 : Int32).toUInt32 &&& Int32.toUInt32 31)).toInt32) &&& 1431655765)) &&& 858993459) + ((((x - (((x.toUInt32 >>> ((1 : Int32).toUInt32 &&& Int32.toUInt32 31)).toInt32) &&& 1431655765)).toUInt32 >>> ((2 : Int32).toUInt32 &&& Int32.toUInt32 31)).toInt32) &&& 858993459)).toUInt32 >>> ((4 : Int32).toUInt32 &&& Int32.toUInt32 31)).toInt32)) &&& 252645135) + (((((((x - (((x.toUInt32 >>> ((1 : Int32).toUInt32 &&& Int32.toUInt32 31)).toInt32) &&& 1431655765)) &&& 858993459) + ((((x - (((x.toUInt32 >>> ((1 : Int32).toUInt32 &&& Int32.toUInt32 31)).toInt32) &&& 1431655765)).toUInt32 >>> ((2 : Int32).toUInt32 &&& Int32.toUInt32 31)).toInt32) &&& 858993459)) + (((((x - (((x.toUInt32 >>> ((1 : Int32).toUInt32 &&& Int32.toUInt32 31)).toInt32) &&& 1431655765)) &&& 858993459) + ((((x - (((x.toUInt32 >>> ((1 : Int32).toUInt32 &&& Int32.toUInt32 31)).toInt32) &&& 1431655765)).toUInt32 >>> ((2 : Int32).toUInt32 &&& Int32.toUInt32 31)).toInt32) &&& 858993459)).toUInt32 >>> ((4 : Int32).toUInt32 &&& Int32.toUInt32 31)).toInt32)) &&& 252645135).toUInt32 >>> ((8 : Int32).toUInt32 &&& Int32.toUInt32 31)).toInt32)).toUInt32 >>> ((16 : Int32).toUInt32 &&& Int32.toUInt32 31)).toInt32)))]) hx hb d_In_bitCount_47 rfl hl (by decide) rfl (fun ls hl => ?_)
  refine lv_iload_n hx hb d_In_bitCount_48 rfl (lv_at hl 0 rfl) ?_
  refine lv_bipush (v := 63) hx hb d_In_bitCount_49 (by decide) ?_
  refine lv_iand hx hb d_In_bitCount_51 ?_
  exact hret _ _ _ d_In_bitCount_52 (bc_eq hlo)
set_option maxHeartbeats 400000 in
set_option maxRecDepth 100000 in
theorem c_In_numberOfTrailingZeros (l : Launch) (n : Nat)  (hn : n < 65536) (h0 : 0 < n) : SMi l y_In_numberOfTrailingZeros b_In_numberOfTrailingZeros 2 (some .int) 0 0 [.int (nI n)] (fun r => r = nI (tzf 16 n)) := by
  refine st_entJ (own := R_In) (by decide +kernel) rfl (Nat.le_of_ble_eq_true rfl) ?_
  intro p e s m args below meth c Q hC hret ls hl
  have hx := hC.1
  have hb := hC.2.1
  replace hl : lv_has ls 2 [(0, .int (nI n))] := hl
  refine lv_iload_n hx hb d_In_numberOfTrailingZeros_0 rfl (lv_at hl 0 rfl) ?_
  refine lv_iconst (v := (-1)) hx hb d_In_numberOfTrailingZeros_1 (by decide) ?_
  refine lv_ixor hx hb d_In_numberOfTrailingZeros_2 ?_
  refine lv_iload_n hx hb d_In_numberOfTrailingZeros_3 rfl (lv_at hl 0 rfl) ?_
  refine lv_iconst (v := 1) hx hb d_In_numberOfTrailingZeros_4 (by decide) ?_
  refine lv_isub hx hb d_In_numberOfTrailingZeros_5 ?_
  refine topi_eq (iI_sub (↑n : Int) 1) ?_
  refine lv_iand hx hb d_In_numberOfTrailingZeros_6 ?_
  refine topi_eq (tz_raw hn h0) ?_
  have ht9 := (tz_16 hn h0).2
  have hm9 := tz_m _ ht9
  generalize hmm : 2 ^ tzf 16 n - 1 = mm at hm9 ⊢
  refine lv_istore_n (lv' := [(0, .int (nI mm))]) hx hb d_In_numberOfTrailingZeros_7 rfl hl (by decide) rfl (fun ls hl => ?_)
  refine lv_iload_n hx hb d_In_numberOfTrailingZeros_8 rfl (lv_at hl 0 rfl) ?_
  refine nz_gt hx hb mm (by omega) d_In_numberOfTrailingZeros_9 (tgt := 17) (by decide) (fun h1 => ?_) (fun h1 => ?_)
  · skip
    refine lv_iconst (v := 1) hx hb d_In_numberOfTrailingZeros_17 (by decide) ?_
    refine topi_eq (y := nI 1) rfl ?_
    refine lv_istore_n (lv' := [(1, .int (nI 1)), (0, .int (nI mm))]) hx hb d_In_numberOfTrailingZeros_18 rfl hl (by decide) rfl (fun ls hl => ?_)
    refine lv_iload_n hx hb d_In_numberOfTrailingZeros_19 rfl (lv_at hl 1 rfl) ?_
    refine lv_ldcw (v := 65536) hx hb hC.2.2.2.1 (hC.2.2.2.2 _ wx_In_264) d_In_numberOfTrailingZeros_20 ?_
    refine nc_le hx hb mm 65536 (by omega) (by omega) d_In_numberOfTrailingZeros_23 (tgt := 34) (by decide) (fun h2 => ?_) (fun h2 => ?_)
    · skip
      refine lv_iload_n hx hb d_In_numberOfTrailingZeros_34 rfl (lv_at hl 1 rfl) ?_
      refine lv_sipush (v := 256) hx hb d_In_numberOfTrailingZeros_35 (by decide) ?_
      refine nc_le hx hb mm 256 (by omega) (by omega) d_In_numberOfTrailingZeros_38 (tgt := 49) (by decide) (fun h3 => ?_) (fun h3 => ?_)
      · skip
        refine lv_iload_n hx hb d_In_numberOfTrailingZeros_49 rfl (lv_at hl 1 rfl) ?_
        refine lv_bipush (v := 16) hx hb d_In_numberOfTrailingZeros_50 (by decide) ?_
        refine nc_le hx hb mm 16 (by omega) (by omega) d_In_numberOfTrailingZeros_52 (tgt := 62) (by decide) (fun h4 => ?_) (fun h4 => ?_)
        · skip
          refine lv_iload_n hx hb d_In_numberOfTrailingZeros_62 rfl (lv_at hl 1 rfl) ?_
          refine lv_iconst (v := 4) hx hb d_In_numberOfTrailingZeros_63 (by decide) ?_
          refine nc_le hx hb mm 4 (by omega) (by omega) d_In_numberOfTrailingZeros_64 (tgt := 74) (by decide) (fun h5 => ?_) (fun h5 => ?_)
          · skip
            refine lv_iload_n hx hb d_In_numberOfTrailingZeros_74 rfl (lv_at hl 0 rfl) ?_
            refine lv_iload_n hx hb d_In_numberOfTrailingZeros_75 rfl (lv_at hl 1 rfl) ?_
            refine lv_iconst (v := 1) hx hb d_In_numberOfTrailingZeros_76 (by decide) ?_
            refine lv_iushr hx hb d_In_numberOfTrailingZeros_77 rfl ?_
            refine topi_eq (y := nI (mm / 2)) (pk_ushrN (n := mm) (by omega) 1 1 rfl) ?_
            refine lv_iadd hx hb d_In_numberOfTrailingZeros_78 ?_
            refine topi_eq (nI_add 1 (mm / 2)) ?_
            exact hret _ _ _ d_In_numberOfTrailingZeros_79 (by first | (exfalso; omega) | (refine congrArg nI ?_; rw [← tzr_ok _ ht9 (tz_pos hmm (by assumption)), hmm]; simp only [tzr, tzs, if_neg h2, if_neg h3, if_neg h4, if_neg h5]))
          · skip
            refine lv_iinc (v := nI (1 + 2)) (lv' := [(1, .int (nI (1 + 2))), (0, .int (nI mm))]) hx hb d_In_numberOfTrailingZeros_67 hl (k := 0) rfl (nI_add 1 2) (by decide) rfl (fun ls hl => ?_)
            refine lv_iload_n hx hb d_In_numberOfTrailingZeros_70 rfl (lv_at hl 1 rfl) ?_
            refine lv_iconst (v := 2) hx hb d_In_numberOfTrailingZeros_71 (by decide) ?_
            refine lv_iushr hx hb d_In_numberOfTrailingZeros_72 rfl ?_
            refine topi_eq (y := nI (mm / 4)) (pk_ushrN (n := mm) (by omega) 2 2 rfl) ?_
            refine lv_istore_n (lv' := [(0, .int (nI (mm / 4))), (1, .int (nI (1 + 2)))]) hx hb d_In_numberOfTrailingZeros_73 rfl hl (by decide) rfl (fun ls hl => ?_)
            refine lv_iload_n hx hb d_In_numberOfTrailingZeros_74 rfl (lv_at hl 1 rfl) ?_
            refine lv_iload_n hx hb d_In_numberOfTrailingZeros_75 rfl (lv_at hl 0 rfl) ?_
            refine lv_iconst (v := 1) hx hb d_In_numberOfTrailingZeros_76 (by decide) ?_
            refine lv_iushr hx hb d_In_numberOfTrailingZeros_77 rfl ?_
            refine topi_eq (y := nI ((mm / 4) / 2)) (pk_ushrN (n := mm / 4) (by omega) 1 1 rfl) ?_
            refine lv_iadd hx hb d_In_numberOfTrailingZeros_78 ?_
            refine topi_eq (nI_add (1 + 2) ((mm / 4) / 2)) ?_
            exact hret _ _ _ d_In_numberOfTrailingZeros_79 (by first | (exfalso; omega) | (refine congrArg nI ?_; rw [← tzr_ok _ ht9 (tz_pos hmm (by assumption)), hmm]; simp only [tzr, tzs, if_neg h2, if_neg h3, if_neg h4, if_pos h5]))
        · skip
          refine lv_iinc (v := nI (1 + 4)) (lv' := [(1, .int (nI (1 + 4))), (0, .int (nI mm))]) hx hb d_In_numberOfTrailingZeros_55 hl (k := 0) rfl (nI_add 1 4) (by decide) rfl (fun ls hl => ?_)
          refine lv_iload_n hx hb d_In_numberOfTrailingZeros_58 rfl (lv_at hl 1 rfl) ?_
          refine lv_iconst (v := 4) hx hb d_In_numberOfTrailingZeros_59 (by decide) ?_
          refine lv_iushr hx hb d_In_numberOfTrailingZeros_60 rfl ?_
          refine topi_eq (y := nI (mm / 16)) (pk_ushrN (n := mm) (by omega) 4 4 rfl) ?_
          refine lv_istore_n (lv' := [(0, .int (nI (mm / 16))), (1, .int (nI (1 + 4)))]) hx hb d_In_numberOfTrailingZeros_61 rfl hl (by decide) rfl (fun ls hl => ?_)
          refine lv_iload_n hx hb d_In_numberOfTrailingZeros_62 rfl (lv_at hl 0 rfl) ?_
          refine lv_iconst (v := 4) hx hb d_In_numberOfTrailingZeros_63 (by decide) ?_
          refine nc_le hx hb (mm / 16) 4 (by omega) (by omega) d_In_numberOfTrailingZeros_64 (tgt := 74) (by decide) (fun h6 => ?_) (fun h6 => ?_)
          · skip
            refine lv_iload_n hx hb d_In_numberOfTrailingZeros_74 rfl (lv_at hl 1 rfl) ?_
            refine lv_iload_n hx hb d_In_numberOfTrailingZeros_75 rfl (lv_at hl 0 rfl) ?_
            refine lv_iconst (v := 1) hx hb d_In_numberOfTrailingZeros_76 (by decide) ?_
            refine lv_iushr hx hb d_In_numberOfTrailingZeros_77 rfl ?_
            refine topi_eq (y := nI ((mm / 16) / 2)) (pk_ushrN (n := mm / 16) (by omega) 1 1 rfl) ?_
            refine lv_iadd hx hb d_In_numberOfTrailingZeros_78 ?_
            refine topi_eq (nI_add (1 + 4) ((mm / 16) / 2)) ?_
            exact hret _ _ _ d_In_numberOfTrailingZeros_79 (by first | (exfalso; omega) | (refine congrArg nI ?_; rw [← tzr_ok _ ht9 (tz_pos hmm (by assumption)), hmm]; simp only [tzr, tzs, if_neg h2, if_neg h3, if_pos h4, if_neg h6]))
          · skip
            refine lv_iinc (v := nI ((1 + 4) + 2)) (lv' := [(1, .int (nI ((1 + 4) + 2))), (0, .int (nI (mm / 16)))]) hx hb d_In_numberOfTrailingZeros_67 hl (k := 1) rfl (nI_add (1 + 4) 2) (by decide) rfl (fun ls hl => ?_)
            refine lv_iload_n hx hb d_In_numberOfTrailingZeros_70 rfl (lv_at hl 1 rfl) ?_
            refine lv_iconst (v := 2) hx hb d_In_numberOfTrailingZeros_71 (by decide) ?_
            refine lv_iushr hx hb d_In_numberOfTrailingZeros_72 rfl ?_
            refine topi_eq (y := nI ((mm / 16) / 4)) (pk_ushrN (n := mm / 16) (by omega) 2 2 rfl) ?_
            refine lv_istore_n (lv' := [(0, .int (nI ((mm / 16) / 4))), (1, .int (nI ((1 + 4) + 2)))]) hx hb d_In_numberOfTrailingZeros_73 rfl hl (by decide) rfl (fun ls hl => ?_)
            refine lv_iload_n hx hb d_In_numberOfTrailingZeros_74 rfl (lv_at hl 1 rfl) ?_
            refine lv_iload_n hx hb d_In_numberOfTrailingZeros_75 rfl (lv_at hl 0 rfl) ?_
            refine lv_iconst (v := 1) hx hb d_In_numberOfTrailingZeros_76 (by decide) ?_
            refine lv_iushr hx hb d_In_numberOfTrailingZeros_77 rfl ?_
            refine topi_eq (y := nI (((mm / 16) / 4) / 2)) (pk_ushrN (n := (mm / 16) / 4) (by omega) 1 1 rfl) ?_
            refine lv_iadd hx hb d_In_numberOfTrailingZeros_78 ?_
            refine topi_eq (nI_add ((1 + 4) + 2) (((mm / 16) / 4) / 2)) ?_
            exact hret _ _ _ d_In_numberOfTrailingZeros_79 (by first | (exfalso; omega) | (refine congrArg nI ?_; rw [← tzr_ok _ ht9 (tz_pos hmm (by assumption)), hmm]; simp only [tzr, tzs, if_neg h2, if_neg h3, if_pos h4, if_pos h6]))
      · skip
        refine lv_iinc (v := nI (1 + 8)) (lv' := [(1, .int (nI (1 + 8))), (0, .int (nI mm))]) hx hb d_In_numberOfTrailingZeros_41 hl (k := 0) rfl (nI_add 1 8) (by decide) rfl (fun ls hl => ?_)
        refine lv_iload_n hx hb d_In_numberOfTrailingZeros_44 rfl (lv_at hl 1 rfl) ?_
        refine lv_bipush (v := 8) hx hb d_In_numberOfTrailingZeros_45 (by decide) ?_
        refine lv_iushr hx hb d_In_numberOfTrailingZeros_47 rfl ?_
        refine topi_eq (y := nI (mm / 256)) (pk_ushrN (n := mm) (by omega) 8 8 rfl) ?_
        refine lv_istore_n (lv' := [(0, .int (nI (mm / 256))), (1, .int (nI (1 + 8)))]) hx hb d_In_numberOfTrailingZeros_48 rfl hl (by decide) rfl (fun ls hl => ?_)
        refine lv_iload_n hx hb d_In_numberOfTrailingZeros_49 rfl (lv_at hl 0 rfl) ?_
        refine lv_bipush (v := 16) hx hb d_In_numberOfTrailingZeros_50 (by decide) ?_
        refine nc_le hx hb (mm / 256) 16 (by omega) (by omega) d_In_numberOfTrailingZeros_52 (tgt := 62) (by decide) (fun h7 => ?_) (fun h7 => ?_)
        · skip
          refine lv_iload_n hx hb d_In_numberOfTrailingZeros_62 rfl (lv_at hl 0 rfl) ?_
          refine lv_iconst (v := 4) hx hb d_In_numberOfTrailingZeros_63 (by decide) ?_
          refine nc_le hx hb (mm / 256) 4 (by omega) (by omega) d_In_numberOfTrailingZeros_64 (tgt := 74) (by decide) (fun h8 => ?_) (fun h8 => ?_)
          · skip
            refine lv_iload_n hx hb d_In_numberOfTrailingZeros_74 rfl (lv_at hl 1 rfl) ?_
            refine lv_iload_n hx hb d_In_numberOfTrailingZeros_75 rfl (lv_at hl 0 rfl) ?_
            refine lv_iconst (v := 1) hx hb d_In_numberOfTrailingZeros_76 (by decide) ?_
            refine lv_iushr hx hb d_In_numberOfTrailingZeros_77 rfl ?_
            refine topi_eq (y := nI ((mm / 256) / 2)) (pk_ushrN (n := mm / 256) (by omega) 1 1 rfl) ?_
            refine lv_iadd hx hb d_In_numberOfTrailingZeros_78 ?_
            refine topi_eq (nI_add (1 + 8) ((mm / 256) / 2)) ?_
            exact hret _ _ _ d_In_numberOfTrailingZeros_79 (by first | (exfalso; omega) | (refine congrArg nI ?_; rw [← tzr_ok _ ht9 (tz_pos hmm (by assumption)), hmm]; simp only [tzr, tzs, if_neg h2, if_pos h3, if_neg h7, if_neg h8]))
          · skip
            refine lv_iinc (v := nI ((1 + 8) + 2)) (lv' := [(1, .int (nI ((1 + 8) + 2))), (0, .int (nI (mm / 256)))]) hx hb d_In_numberOfTrailingZeros_67 hl (k := 1) rfl (nI_add (1 + 8) 2) (by decide) rfl (fun ls hl => ?_)
            refine lv_iload_n hx hb d_In_numberOfTrailingZeros_70 rfl (lv_at hl 1 rfl) ?_
            refine lv_iconst (v := 2) hx hb d_In_numberOfTrailingZeros_71 (by decide) ?_
            refine lv_iushr hx hb d_In_numberOfTrailingZeros_72 rfl ?_
            refine topi_eq (y := nI ((mm / 256) / 4)) (pk_ushrN (n := mm / 256) (by omega) 2 2 rfl) ?_
            refine lv_istore_n (lv' := [(0, .int (nI ((mm / 256) / 4))), (1, .int (nI ((1 + 8) + 2)))]) hx hb d_In_numberOfTrailingZeros_73 rfl hl (by decide) rfl (fun ls hl => ?_)
            refine lv_iload_n hx hb d_In_numberOfTrailingZeros_74 rfl (lv_at hl 1 rfl) ?_
            refine lv_iload_n hx hb d_In_numberOfTrailingZeros_75 rfl (lv_at hl 0 rfl) ?_
            refine lv_iconst (v := 1) hx hb d_In_numberOfTrailingZeros_76 (by decide) ?_
            refine lv_iushr hx hb d_In_numberOfTrailingZeros_77 rfl ?_
            refine topi_eq (y := nI (((mm / 256) / 4) / 2)) (pk_ushrN (n := (mm / 256) / 4) (by omega) 1 1 rfl) ?_
            refine lv_iadd hx hb d_In_numberOfTrailingZeros_78 ?_
            refine topi_eq (nI_add ((1 + 8) + 2) (((mm / 256) / 4) / 2)) ?_
            exact hret _ _ _ d_In_numberOfTrailingZeros_79 (by first | (exfalso; omega) | (refine congrArg nI ?_; rw [← tzr_ok _ ht9 (tz_pos hmm (by assumption)), hmm]; simp only [tzr, tzs, if_neg h2, if_pos h3, if_neg h7, if_pos h8]))
        · skip
          refine lv_iinc (v := nI ((1 + 8) + 4)) (lv' := [(1, .int (nI ((1 + 8) + 4))), (0, .int (nI (mm / 256)))]) hx hb d_In_numberOfTrailingZeros_55 hl (k := 1) rfl (nI_add (1 + 8) 4) (by decide) rfl (fun ls hl => ?_)
          refine lv_iload_n hx hb d_In_numberOfTrailingZeros_58 rfl (lv_at hl 1 rfl) ?_
          refine lv_iconst (v := 4) hx hb d_In_numberOfTrailingZeros_59 (by decide) ?_
          refine lv_iushr hx hb d_In_numberOfTrailingZeros_60 rfl ?_
          refine topi_eq (y := nI ((mm / 256) / 16)) (pk_ushrN (n := mm / 256) (by omega) 4 4 rfl) ?_
          refine lv_istore_n (lv' := [(0, .int (nI ((mm / 256) / 16))), (1, .int (nI ((1 + 8) + 4)))]) hx hb d_In_numberOfTrailingZeros_61 rfl hl (by decide) rfl (fun ls hl => ?_)
          refine lv_iload_n hx hb d_In_numberOfTrailingZeros_62 rfl (lv_at hl 0 rfl) ?_
          refine lv_iconst (v := 4) hx hb d_In_numberOfTrailingZeros_63 (by decide) ?_
          refine nc_le hx hb ((mm / 256) / 16) 4 (by omega) (by omega) d_In_numberOfTrailingZeros_64 (tgt := 74) (by decide) (fun h9 => ?_) (fun h9 => ?_)
          · skip
            refine lv_iload_n hx hb d_In_numberOfTrailingZeros_74 rfl (lv_at hl 1 rfl) ?_
            refine lv_iload_n hx hb d_In_numberOfTrailingZeros_75 rfl (lv_at hl 0 rfl) ?_
            refine lv_iconst (v := 1) hx hb d_In_numberOfTrailingZeros_76 (by decide) ?_
            refine lv_iushr hx hb d_In_numberOfTrailingZeros_77 rfl ?_
            refine topi_eq (y := nI (((mm / 256) / 16) / 2)) (pk_ushrN (n := (mm / 256) / 16) (by omega) 1 1 rfl) ?_
            refine lv_iadd hx hb d_In_numberOfTrailingZeros_78 ?_
            refine topi_eq (nI_add ((1 + 8) + 4) (((mm / 256) / 16) / 2)) ?_
            exact hret _ _ _ d_In_numberOfTrailingZeros_79 (by first | (exfalso; omega) | (refine congrArg nI ?_; rw [← tzr_ok _ ht9 (tz_pos hmm (by assumption)), hmm]; simp only [tzr, tzs, if_neg h2, if_pos h3, if_pos h7, if_neg h9]))
          · skip
            refine lv_iinc (v := nI (((1 + 8) + 4) + 2)) (lv' := [(1, .int (nI (((1 + 8) + 4) + 2))), (0, .int (nI ((mm / 256) / 16)))]) hx hb d_In_numberOfTrailingZeros_67 hl (k := 1) rfl (nI_add ((1 + 8) + 4) 2) (by decide) rfl (fun ls hl => ?_)
            refine lv_iload_n hx hb d_In_numberOfTrailingZeros_70 rfl (lv_at hl 1 rfl) ?_
            refine lv_iconst (v := 2) hx hb d_In_numberOfTrailingZeros_71 (by decide) ?_
            refine lv_iushr hx hb d_In_numberOfTrailingZeros_72 rfl ?_
            refine topi_eq (y := nI (((mm / 256) / 16) / 4)) (pk_ushrN (n := (mm / 256) / 16) (by omega) 2 2 rfl) ?_
            refine lv_istore_n (lv' := [(0, .int (nI (((mm / 256) / 16) / 4))), (1, .int (nI (((1 + 8) + 4) + 2)))]) hx hb d_In_numberOfTrailingZeros_73 rfl hl (by decide) rfl (fun ls hl => ?_)
            refine lv_iload_n hx hb d_In_numberOfTrailingZeros_74 rfl (lv_at hl 1 rfl) ?_
            refine lv_iload_n hx hb d_In_numberOfTrailingZeros_75 rfl (lv_at hl 0 rfl) ?_
            refine lv_iconst (v := 1) hx hb d_In_numberOfTrailingZeros_76 (by decide) ?_
            refine lv_iushr hx hb d_In_numberOfTrailingZeros_77 rfl ?_
            refine topi_eq (y := nI ((((mm / 256) / 16) / 4) / 2)) (pk_ushrN (n := ((mm / 256) / 16) / 4) (by omega) 1 1 rfl) ?_
            refine lv_iadd hx hb d_In_numberOfTrailingZeros_78 ?_
            refine topi_eq (nI_add (((1 + 8) + 4) + 2) ((((mm / 256) / 16) / 4) / 2)) ?_
            exact hret _ _ _ d_In_numberOfTrailingZeros_79 (by first | (exfalso; omega) | (refine congrArg nI ?_; rw [← tzr_ok _ ht9 (tz_pos hmm (by assumption)), hmm]; simp only [tzr, tzs, if_neg h2, if_pos h3, if_pos h7, if_pos h9]))
    · skip
      refine lv_iinc (v := nI (1 + 16)) (lv' := [(1, .int (nI (1 + 16))), (0, .int (nI mm))]) hx hb d_In_numberOfTrailingZeros_26 hl (k := 0) rfl (nI_add 1 16) (by decide) rfl (fun ls hl => ?_)
      refine lv_iload_n hx hb d_In_numberOfTrailingZeros_29 rfl (lv_at hl 1 rfl) ?_
      refine lv_bipush (v := 16) hx hb d_In_numberOfTrailingZeros_30 (by decide) ?_
      refine lv_iushr hx hb d_In_numberOfTrailingZeros_32 rfl ?_
      refine topi_eq (y := nI (mm / 65536)) (pk_ushrN (n := mm) (by omega) 16 16 rfl) ?_
      refine lv_istore_n (lv' := [(0, .int (nI (mm / 65536))), (1, .int (nI (1 + 16)))]) hx hb d_In_numberOfTrailingZeros_33 rfl hl (by decide) rfl (fun ls hl => ?_)
      refine lv_iload_n hx hb d_In_numberOfTrailingZeros_34 rfl (lv_at hl 0 rfl) ?_
      refine lv_sipush (v := 256) hx hb d_In_numberOfTrailingZeros_35 (by decide) ?_
      refine nc_le hx hb (mm / 65536) 256 (by omega) (by omega) d_In_numberOfTrailingZeros_38 (tgt := 49) (by decide) (fun h10 => ?_) (fun h10 => ?_)
      · skip
        refine lv_iload_n hx hb d_In_numberOfTrailingZeros_49 rfl (lv_at hl 0 rfl) ?_
        refine lv_bipush (v := 16) hx hb d_In_numberOfTrailingZeros_50 (by decide) ?_
        refine nc_le hx hb (mm / 65536) 16 (by omega) (by omega) d_In_numberOfTrailingZeros_52 (tgt := 62) (by decide) (fun h11 => ?_) (fun h11 => ?_)
        · skip
          refine lv_iload_n hx hb d_In_numberOfTrailingZeros_62 rfl (lv_at hl 0 rfl) ?_
          refine lv_iconst (v := 4) hx hb d_In_numberOfTrailingZeros_63 (by decide) ?_
          refine nc_le hx hb (mm / 65536) 4 (by omega) (by omega) d_In_numberOfTrailingZeros_64 (tgt := 74) (by decide) (fun h12 => ?_) (fun h12 => ?_)
          · skip
            refine lv_iload_n hx hb d_In_numberOfTrailingZeros_74 rfl (lv_at hl 1 rfl) ?_
            refine lv_iload_n hx hb d_In_numberOfTrailingZeros_75 rfl (lv_at hl 0 rfl) ?_
            refine lv_iconst (v := 1) hx hb d_In_numberOfTrailingZeros_76 (by decide) ?_
            refine lv_iushr hx hb d_In_numberOfTrailingZeros_77 rfl ?_
            refine topi_eq (y := nI ((mm / 65536) / 2)) (pk_ushrN (n := mm / 65536) (by omega) 1 1 rfl) ?_
            refine lv_iadd hx hb d_In_numberOfTrailingZeros_78 ?_
            refine topi_eq (nI_add (1 + 16) ((mm / 65536) / 2)) ?_
            exact hret _ _ _ d_In_numberOfTrailingZeros_79 (by first | (exfalso; omega) | (refine congrArg nI ?_; rw [← tzr_ok _ ht9 (tz_pos hmm (by assumption)), hmm]; simp only [tzr, tzs, if_pos h2, if_neg h10, if_neg h11, if_neg h12]))
          · skip
            refine lv_iinc (v := nI ((1 + 16) + 2)) (lv' := [(1, .int (nI ((1 + 16) + 2))), (0, .int (nI (mm / 65536)))]) hx hb d_In_numberOfTrailingZeros_67 hl (k := 1) rfl (nI_add (1 + 16) 2) (by decide) rfl (fun ls hl => ?_)
            refine lv_iload_n hx hb d_In_numberOfTrailingZeros_70 rfl (lv_at hl 1 rfl) ?_
            refine lv_iconst (v := 2) hx hb d_In_numberOfTrailingZeros_71 (by decide) ?_
            refine lv_iushr hx hb d_In_numberOfTrailingZeros_72 rfl ?_
            refine topi_eq (y := nI ((mm / 65536) / 4)) (pk_ushrN (n := mm / 65536) (by omega) 2 2 rfl) ?_
            refine lv_istore_n (lv' := [(0, .int (nI ((mm / 65536) / 4))), (1, .int (nI ((1 + 16) + 2)))]) hx hb d_In_numberOfTrailingZeros_73 rfl hl (by decide) rfl (fun ls hl => ?_)
            refine lv_iload_n hx hb d_In_numberOfTrailingZeros_74 rfl (lv_at hl 1 rfl) ?_
            refine lv_iload_n hx hb d_In_numberOfTrailingZeros_75 rfl (lv_at hl 0 rfl) ?_
            refine lv_iconst (v := 1) hx hb d_In_numberOfTrailingZeros_76 (by decide) ?_
            refine lv_iushr hx hb d_In_numberOfTrailingZeros_77 rfl ?_
            refine topi_eq (y := nI (((mm / 65536) / 4) / 2)) (pk_ushrN (n := (mm / 65536) / 4) (by omega) 1 1 rfl) ?_
            refine lv_iadd hx hb d_In_numberOfTrailingZeros_78 ?_
            refine topi_eq (nI_add ((1 + 16) + 2) (((mm / 65536) / 4) / 2)) ?_
            exact hret _ _ _ d_In_numberOfTrailingZeros_79 (by first | (exfalso; omega) | (refine congrArg nI ?_; rw [← tzr_ok _ ht9 (tz_pos hmm (by assumption)), hmm]; simp only [tzr, tzs, if_pos h2, if_neg h10, if_neg h11, if_pos h12]))
        · skip
          refine lv_iinc (v := nI ((1 + 16) + 4)) (lv' := [(1, .int (nI ((1 + 16) + 4))), (0, .int (nI (mm / 65536)))]) hx hb d_In_numberOfTrailingZeros_55 hl (k := 1) rfl (nI_add (1 + 16) 4) (by decide) rfl (fun ls hl => ?_)
          refine lv_iload_n hx hb d_In_numberOfTrailingZeros_58 rfl (lv_at hl 1 rfl) ?_
          refine lv_iconst (v := 4) hx hb d_In_numberOfTrailingZeros_59 (by decide) ?_
          refine lv_iushr hx hb d_In_numberOfTrailingZeros_60 rfl ?_
          refine topi_eq (y := nI ((mm / 65536) / 16)) (pk_ushrN (n := mm / 65536) (by omega) 4 4 rfl) ?_
          refine lv_istore_n (lv' := [(0, .int (nI ((mm / 65536) / 16))), (1, .int (nI ((1 + 16) + 4)))]) hx hb d_In_numberOfTrailingZeros_61 rfl hl (by decide) rfl (fun ls hl => ?_)
          refine lv_iload_n hx hb d_In_numberOfTrailingZeros_62 rfl (lv_at hl 0 rfl) ?_
          refine lv_iconst (v := 4) hx hb d_In_numberOfTrailingZeros_63 (by decide) ?_
          refine nc_le hx hb ((mm / 65536) / 16) 4 (by omega) (by omega) d_In_numberOfTrailingZeros_64 (tgt := 74) (by decide) (fun h13 => ?_) (fun h13 => ?_)
          · skip
            refine lv_iload_n hx hb d_In_numberOfTrailingZeros_74 rfl (lv_at hl 1 rfl) ?_
            refine lv_iload_n hx hb d_In_numberOfTrailingZeros_75 rfl (lv_at hl 0 rfl) ?_
            refine lv_iconst (v := 1) hx hb d_In_numberOfTrailingZeros_76 (by decide) ?_
            refine lv_iushr hx hb d_In_numberOfTrailingZeros_77 rfl ?_
            refine topi_eq (y := nI (((mm / 65536) / 16) / 2)) (pk_ushrN (n := (mm / 65536) / 16) (by omega) 1 1 rfl) ?_
            refine lv_iadd hx hb d_In_numberOfTrailingZeros_78 ?_
            refine topi_eq (nI_add ((1 + 16) + 4) (((mm / 65536) / 16) / 2)) ?_
            exact hret _ _ _ d_In_numberOfTrailingZeros_79 (by first | (exfalso; omega) | (refine congrArg nI ?_; rw [← tzr_ok _ ht9 (tz_pos hmm (by assumption)), hmm]; simp only [tzr, tzs, if_pos h2, if_neg h10, if_pos h11, if_neg h13]))
          · skip
            refine lv_iinc (v := nI (((1 + 16) + 4) + 2)) (lv' := [(1, .int (nI (((1 + 16) + 4) + 2))), (0, .int (nI ((mm / 65536) / 16)))]) hx hb d_In_numberOfTrailingZeros_67 hl (k := 1) rfl (nI_add ((1 + 16) + 4) 2) (by decide) rfl (fun ls hl => ?_)
            refine lv_iload_n hx hb d_In_numberOfTrailingZeros_70 rfl (lv_at hl 1 rfl) ?_
            refine lv_iconst (v := 2) hx hb d_In_numberOfTrailingZeros_71 (by decide) ?_
            refine lv_iushr hx hb d_In_numberOfTrailingZeros_72 rfl ?_
            refine topi_eq (y := nI (((mm / 65536) / 16) / 4)) (pk_ushrN (n := (mm / 65536) / 16) (by omega) 2 2 rfl) ?_
            refine lv_istore_n (lv' := [(0, .int (nI (((mm / 65536) / 16) / 4))), (1, .int (nI (((1 + 16) + 4) + 2)))]) hx hb d_In_numberOfTrailingZeros_73 rfl hl (by decide) rfl (fun ls hl => ?_)
            refine lv_iload_n hx hb d_In_numberOfTrailingZeros_74 rfl (lv_at hl 1 rfl) ?_
            refine lv_iload_n hx hb d_In_numberOfTrailingZeros_75 rfl (lv_at hl 0 rfl) ?_
            refine lv_iconst (v := 1) hx hb d_In_numberOfTrailingZeros_76 (by decide) ?_
            refine lv_iushr hx hb d_In_numberOfTrailingZeros_77 rfl ?_
            refine topi_eq (y := nI ((((mm / 65536) / 16) / 4) / 2)) (pk_ushrN (n := ((mm / 65536) / 16) / 4) (by omega) 1 1 rfl) ?_
            refine lv_iadd hx hb d_In_numberOfTrailingZeros_78 ?_
            refine topi_eq (nI_add (((1 + 16) + 4) + 2) ((((mm / 65536) / 16) / 4) / 2)) ?_
            exact hret _ _ _ d_In_numberOfTrailingZeros_79 (by first | (exfalso; omega) | (refine congrArg nI ?_; rw [← tzr_ok _ ht9 (tz_pos hmm (by assumption)), hmm]; simp only [tzr, tzs, if_pos h2, if_neg h10, if_pos h11, if_pos h13]))
      · skip
        refine lv_iinc (v := nI ((1 + 16) + 8)) (lv' := [(1, .int (nI ((1 + 16) + 8))), (0, .int (nI (mm / 65536)))]) hx hb d_In_numberOfTrailingZeros_41 hl (k := 1) rfl (nI_add (1 + 16) 8) (by decide) rfl (fun ls hl => ?_)
        refine lv_iload_n hx hb d_In_numberOfTrailingZeros_44 rfl (lv_at hl 1 rfl) ?_
        refine lv_bipush (v := 8) hx hb d_In_numberOfTrailingZeros_45 (by decide) ?_
        refine lv_iushr hx hb d_In_numberOfTrailingZeros_47 rfl ?_
        refine topi_eq (y := nI ((mm / 65536) / 256)) (pk_ushrN (n := mm / 65536) (by omega) 8 8 rfl) ?_
        refine lv_istore_n (lv' := [(0, .int (nI ((mm / 65536) / 256))), (1, .int (nI ((1 + 16) + 8)))]) hx hb d_In_numberOfTrailingZeros_48 rfl hl (by decide) rfl (fun ls hl => ?_)
        refine lv_iload_n hx hb d_In_numberOfTrailingZeros_49 rfl (lv_at hl 0 rfl) ?_
        refine lv_bipush (v := 16) hx hb d_In_numberOfTrailingZeros_50 (by decide) ?_
        refine nc_le hx hb ((mm / 65536) / 256) 16 (by omega) (by omega) d_In_numberOfTrailingZeros_52 (tgt := 62) (by decide) (fun h14 => ?_) (fun h14 => ?_)
        · skip
          refine lv_iload_n hx hb d_In_numberOfTrailingZeros_62 rfl (lv_at hl 0 rfl) ?_
          refine lv_iconst (v := 4) hx hb d_In_numberOfTrailingZeros_63 (by decide) ?_
          refine nc_le hx hb ((mm / 65536) / 256) 4 (by omega) (by omega) d_In_numberOfTrailingZeros_64 (tgt := 74) (by decide) (fun h15 => ?_) (fun h15 => ?_)
          · skip
            refine lv_iload_n hx hb d_In_numberOfTrailingZeros_74 rfl (lv_at hl 1 rfl) ?_
            refine lv_iload_n hx hb d_In_numberOfTrailingZeros_75 rfl (lv_at hl 0 rfl) ?_
            refine lv_iconst (v := 1) hx hb d_In_numberOfTrailingZeros_76 (by decide) ?_
            refine lv_iushr hx hb d_In_numberOfTrailingZeros_77 rfl ?_
            refine topi_eq (y := nI (((mm / 65536) / 256) / 2)) (pk_ushrN (n := (mm / 65536) / 256) (by omega) 1 1 rfl) ?_
            refine lv_iadd hx hb d_In_numberOfTrailingZeros_78 ?_
            refine topi_eq (nI_add ((1 + 16) + 8) (((mm / 65536) / 256) / 2)) ?_
            exact hret _ _ _ d_In_numberOfTrailingZeros_79 (by first | (exfalso; omega) | (refine congrArg nI ?_; rw [← tzr_ok _ ht9 (tz_pos hmm (by assumption)), hmm]; simp only [tzr, tzs, if_pos h2, if_pos h10, if_neg h14, if_neg h15]))
          · skip
            refine lv_iinc (v := nI (((1 + 16) + 8) + 2)) (lv' := [(1, .int (nI (((1 + 16) + 8) + 2))), (0, .int (nI ((mm / 65536) / 256)))]) hx hb d_In_numberOfTrailingZeros_67 hl (k := 1) rfl (nI_add ((1 + 16) + 8) 2) (by decide) rfl (fun ls hl => ?_)
            refine lv_iload_n hx hb d_In_numberOfTrailingZeros_70 rfl (lv_at hl 1 rfl) ?_
            refine lv_iconst (v := 2) hx hb d_In_numberOfTrailingZeros_71 (by decide) ?_
            refine lv_iushr hx hb d_In_numberOfTrailingZeros_72 rfl ?_
            refine topi_eq (y := nI (((mm / 65536) / 256) / 4)) (pk_ushrN (n := (mm / 65536) / 256) (by omega) 2 2 rfl) ?_
            refine lv_istore_n (lv' := [(0, .int (nI (((mm / 65536) / 256) / 4))), (1, .int (nI (((1 + 16) + 8) + 2)))]) hx hb d_In_numberOfTrailingZeros_73 rfl hl (by decide) rfl (fun ls hl => ?_)
            refine lv_iload_n hx hb d_In_numberOfTrailingZeros_74 rfl (lv_at hl 1 rfl) ?_
            refine lv_iload_n hx hb d_In_numberOfTrailingZeros_75 rfl (lv_at hl 0 rfl) ?_
            refine lv_iconst (v := 1) hx hb d_In_numberOfTrailingZeros_76 (by decide) ?_
            refine lv_iushr hx hb d_In_numberOfTrailingZeros_77 rfl ?_
            refine topi_eq (y := nI ((((mm / 65536) / 256) / 4) / 2)) (pk_ushrN (n := ((mm / 65536) / 256) / 4) (by omega) 1 1 rfl) ?_
            refine lv_iadd hx hb d_In_numberOfTrailingZeros_78 ?_
            refine topi_eq (nI_add (((1 + 16) + 8) + 2) ((((mm / 65536) / 256) / 4) / 2)) ?_
            exact hret _ _ _ d_In_numberOfTrailingZeros_79 (by first | (exfalso; omega) | (refine congrArg nI ?_; rw [← tzr_ok _ ht9 (tz_pos hmm (by assumption)), hmm]; simp only [tzr, tzs, if_pos h2, if_pos h10, if_neg h14, if_pos h15]))
        · skip
          refine lv_iinc (v := nI (((1 + 16) + 8) + 4)) (lv' := [(1, .int (nI (((1 + 16) + 8) + 4))), (0, .int (nI ((mm / 65536) / 256)))]) hx hb d_In_numberOfTrailingZeros_55 hl (k := 1) rfl (nI_add ((1 + 16) + 8) 4) (by decide) rfl (fun ls hl => ?_)
          refine lv_iload_n hx hb d_In_numberOfTrailingZeros_58 rfl (lv_at hl 1 rfl) ?_
          refine lv_iconst (v := 4) hx hb d_In_numberOfTrailingZeros_59 (by decide) ?_
          refine lv_iushr hx hb d_In_numberOfTrailingZeros_60 rfl ?_
          refine topi_eq (y := nI (((mm / 65536) / 256) / 16)) (pk_ushrN (n := (mm / 65536) / 256) (by omega) 4 4 rfl) ?_
          refine lv_istore_n (lv' := [(0, .int (nI (((mm / 65536) / 256) / 16))), (1, .int (nI (((1 + 16) + 8) + 4)))]) hx hb d_In_numberOfTrailingZeros_61 rfl hl (by decide) rfl (fun ls hl => ?_)
          refine lv_iload_n hx hb d_In_numberOfTrailingZeros_62 rfl (lv_at hl 0 rfl) ?_
          refine lv_iconst (v := 4) hx hb d_In_numberOfTrailingZeros_63 (by decide) ?_
          refine nc_le hx hb (((mm / 65536) / 256) / 16) 4 (by omega) (by omega) d_In_numberOfTrailingZeros_64 (tgt := 74) (by decide) (fun h16 => ?_) (fun h16 => ?_)
          · skip
            refine lv_iload_n hx hb d_In_numberOfTrailingZeros_74 rfl (lv_at hl 1 rfl) ?_
            refine lv_iload_n hx hb d_In_numberOfTrailingZeros_75 rfl (lv_at hl 0 rfl) ?_
            refine lv_iconst (v := 1) hx hb d_In_numberOfTrailingZeros_76 (by decide) ?_
            refine lv_iushr hx hb d_In_numberOfTrailingZeros_77 rfl ?_
            refine topi_eq (y := nI ((((mm / 65536) / 256) / 16) / 2)) (pk_ushrN (n := ((mm / 65536) / 256) / 16) (by omega) 1 1 rfl) ?_
            refine lv_iadd hx hb d_In_numberOfTrailingZeros_78 ?_
            refine topi_eq (nI_add (((1 + 16) + 8) + 4) ((((mm / 65536) / 256) / 16) / 2)) ?_
            exact hret _ _ _ d_In_numberOfTrailingZeros_79 (by first | (exfalso; omega) | (refine congrArg nI ?_; rw [← tzr_ok _ ht9 (tz_pos hmm (by assumption)), hmm]; simp only [tzr, tzs, if_pos h2, if_pos h10, if_pos h14, if_neg h16]))
          · skip
            refine lv_iinc (v := nI ((((1 + 16) + 8) + 4) + 2)) (lv' := [(1, .int (nI ((((1 + 16) + 8) + 4) + 2))), (0, .int (nI (((mm / 65536) / 256) / 16)))]) hx hb d_In_numberOfTrailingZeros_67 hl (k := 1) rfl (nI_add (((1 + 16) + 8) + 4) 2) (by decide) rfl (fun ls hl => ?_)
            refine lv_iload_n hx hb d_In_numberOfTrailingZeros_70 rfl (lv_at hl 1 rfl) ?_
            refine lv_iconst (v := 2) hx hb d_In_numberOfTrailingZeros_71 (by decide) ?_
            refine lv_iushr hx hb d_In_numberOfTrailingZeros_72 rfl ?_
            refine topi_eq (y := nI ((((mm / 65536) / 256) / 16) / 4)) (pk_ushrN (n := ((mm / 65536) / 256) / 16) (by omega) 2 2 rfl) ?_
            refine lv_istore_n (lv' := [(0, .int (nI ((((mm / 65536) / 256) / 16) / 4))), (1, .int (nI ((((1 + 16) + 8) + 4) + 2)))]) hx hb d_In_numberOfTrailingZeros_73 rfl hl (by decide) rfl (fun ls hl => ?_)
            refine lv_iload_n hx hb d_In_numberOfTrailingZeros_74 rfl (lv_at hl 1 rfl) ?_
            refine lv_iload_n hx hb d_In_numberOfTrailingZeros_75 rfl (lv_at hl 0 rfl) ?_
            refine lv_iconst (v := 1) hx hb d_In_numberOfTrailingZeros_76 (by decide) ?_
            refine lv_iushr hx hb d_In_numberOfTrailingZeros_77 rfl ?_
            refine topi_eq (y := nI (((((mm / 65536) / 256) / 16) / 4) / 2)) (pk_ushrN (n := (((mm / 65536) / 256) / 16) / 4) (by omega) 1 1 rfl) ?_
            refine lv_iadd hx hb d_In_numberOfTrailingZeros_78 ?_
            refine topi_eq (nI_add ((((1 + 16) + 8) + 4) + 2) (((((mm / 65536) / 256) / 16) / 4) / 2)) ?_
            exact hret _ _ _ d_In_numberOfTrailingZeros_79 (by first | (exfalso; omega) | (refine congrArg nI ?_; rw [← tzr_ok _ ht9 (tz_pos hmm (by assumption)), hmm]; simp only [tzr, tzs, if_pos h2, if_pos h10, if_pos h14, if_pos h16]))
  · skip
    refine lv_iload_n hx hb d_In_numberOfTrailingZeros_12 rfl (lv_at hl 0 rfl) ?_
    refine lv_bipush (v := 32) hx hb d_In_numberOfTrailingZeros_13 (by decide) ?_
    refine lv_iand hx hb d_In_numberOfTrailingZeros_15 ?_
    refine hret _ _ _ d_In_numberOfTrailingZeros_16 ?_
    have e9 := tz_fin _ ht9 (by rw [hmm]; assumption)
    rw [e9] at hmm ⊢
    subst hmm
    rfl
set_option maxHeartbeats 400000 in
set_option maxRecDepth 100000 in
theorem c_So_isBetween (l : Launch) (v : Int32) (lo : Int32) (hi : Int32) (v' lo' hi' : Int) (hv : v.toInt = v') (hlo : lo.toInt = lo') (hhi : hi.toInt = hi') : SMi l y_So_isBetween b_So_isBetween 3 (some .boolean) 0 0 [.int v, .int lo, .int hi] (fun r => r = bI (lo' ≤ v' ∧ v' ≤ hi')) := by
  refine st_entz (own := R_So) (by decide +kernel) rfl (Nat.le_of_ble_eq_true rfl) ?_
  intro p e s m args below meth c Q hC hret ls hl
  have hx := hC.1
  have hb := hC.2.1
  replace hl : lv_has ls 3 [(0, .int v), (1, .int lo), (2, .int hi)] := hl
  refine lv_iload_n hx hb d_So_isBetween_0 rfl (lv_at hl 0 rfl) ?_
  refine lv_iload_n hx hb d_So_isBetween_1 rfl (lv_at hl 1 rfl) ?_
  refine yc_lt hx hb v.toInt lo.toInt (rfl) (rfl) d_So_isBetween_2 (tgt := 14) (by decide) (fun h1 => ?_) (fun h1 => ?_)
  · skip
    refine lv_iconst (v := 0) hx hb d_So_isBetween_14 (by decide) ?_
    exact hret _ _ _ d_So_isBetween_15 (by first | exact Or.inl rfl | exact Or.inr rfl | assumption) ((bI_f (by omega)).symm)
  · skip
    refine lv_iload_n hx hb d_So_isBetween_5 rfl (lv_at hl 0 rfl) ?_
    refine lv_iload_n hx hb d_So_isBetween_6 rfl (lv_at hl 2 rfl) ?_
    refine yc_gt hx hb v.toInt hi.toInt (rfl) (rfl) d_So_isBetween_7 (tgt := 14) (by decide) (fun h2 => ?_) (fun h2 => ?_)
    · skip
      refine lv_iconst (v := 0) hx hb d_So_isBetween_14 (by decide) ?_
      exact hret _ _ _ d_So_isBetween_15 (by first | exact Or.inl rfl | exact Or.inr rfl | assumption) ((bI_f (by omega)).symm)
    · skip
      refine lv_iconst (v := 1) hx hb d_So_isBetween_10 (by decide) ?_
      refine lv_goto (tgt := 15) hx hb d_So_isBetween_11 (by decide) ?_
      exact hret _ _ _ d_So_isBetween_15 (by first | exact Or.inl rfl | exact Or.inr rfl | assumption) ((bI_t (by omega)).symm)
set_option maxHeartbeats 400000 in
set_option maxRecDepth 100000 in
theorem c_So_isNear (l : Launch) (v : Int32) (most : Int) (v' : Int) (hv : v.toInt = v') (h0 : 0 ≤ most) (h1 : most ≤ 1000) : SMi l y_So_isNear b_So_isNear 2 (some .boolean) 1 22 [.int v, .int (iI most)] (fun r => r = bI (-most ≤ v' ∧ v' ≤ most)) := by
  refine st_entz (own := R_So) (by decide +kernel) rfl (Nat.le_of_ble_eq_true rfl) ?_
  intro p e s m args below meth c Q hC hret ls hl
  have hx := hC.1
  have hb := hC.2.1
  replace hl : lv_has ls 2 [(0, .int v), (1, .int (iI most))] := hl
  refine lv_iload_n hx hb d_So_isNear_0 rfl (lv_at hl 0 rfl) ?_
  refine lv_iload_n hx hb d_So_isNear_1 rfl (lv_at hl 1 rfl) ?_
  refine lv_ineg hx hb d_So_isNear_2 ?_
  refine topi_eq (iI_neg most) ?_
  refine lv_iload_n hx hb d_So_isNear_3 rfl (lv_at hl 1 rfl) ?_
  refine st_calli (np := 3) hC (c_So_isBetween l v (iI (-most)) (iI most) v.toInt (-most) most rfl (iI_toInt (z := -most) (by omega) (by omega)) (iI_toInt (z := most) (by omega) (by omega))) ⟨wl_So_106, wt_So_isBetween, wc_So_isBetween, wn_So⟩ ⟨by decide, by decide, by decide +kernel⟩ ⟨Nat.le_of_ble_eq_true rfl, Nat.le_of_ble_eq_true rfl⟩ hl.1 rfl (rest := []) rfl (Nat.le_of_ble_eq_true rfl) ⟨Nat.zero_le _, Nat.zero_le _⟩ d_So_isNear_4 (fun rr hrr => ?_)
  subst hrr
  exact hret _ _ _ d_So_isNear_7 (bI_01) (bI_c (by rw [hv]))
set_option maxHeartbeats 400000 in
set_option maxRecDepth 100000 in
theorem c_So_isPoint (l : Launch) (x : Int32) (y : Int32) (z : Int32) (x' y' z' : Int) (hx0 : x.toInt = x') (hy0 : y.toInt = y') (hz0 : z.toInt = z') : SMi l y_So_isPoint b_So_isPoint 3 (some .boolean) 2 43 [.int x, .int y, .int z] (fun r => r = bI (-7 ≤ x' ∧ x' ≤ 7 ∧ -7 ≤ y' ∧ y' ≤ 7 ∧ -7 ≤ z' ∧ z' ≤ 7)) := by
  refine st_entz (own := R_So) (by decide +kernel) rfl (Nat.le_of_ble_eq_true rfl) ?_
  intro p e s m args below meth c Q hC hret ls hl
  have hx := hC.1
  have hb := hC.2.1
  replace hl : lv_has ls 3 [(0, .int x), (1, .int y), (2, .int z)] := hl
  refine lv_iload_n hx hb d_So_isPoint_0 rfl (lv_at hl 0 rfl) ?_
  refine lv_bipush (v := 7) hx hb d_So_isPoint_1 (by decide) ?_
  refine st_calli (np := 2) hC (c_So_isNear l x 7 x.toInt (rfl) (by omega) (by omega)) ⟨wl_So_83, wt_So_isNear, wc_So_isNear, wn_So⟩ ⟨by decide, by decide, by decide +kernel⟩ ⟨Nat.le_of_ble_eq_true rfl, Nat.le_of_ble_eq_true rfl⟩ hl.1 rfl (rest := []) rfl (Nat.le_of_ble_eq_true rfl) ⟨Nat.zero_le _, Nat.zero_le _⟩ d_So_isPoint_3 (fun rr hrr => ?_)
  subst hrr
  refine bz_eq (tgt := 31) hx hb d_So_isPoint_6 (by decide) (fun h1 => ?_) (fun h1 => ?_)
  · skip
    refine lv_iconst (v := 0) hx hb d_So_isPoint_31 (by decide) ?_
    exact hret _ _ _ d_So_isPoint_32 (by first | exact Or.inl rfl | exact Or.inr rfl | assumption) ((bI_f (by omega)).symm)
  · skip
    refine lv_iload_n hx hb d_So_isPoint_9 rfl (lv_at hl 1 rfl) ?_
    refine lv_bipush (v := 7) hx hb d_So_isPoint_10 (by decide) ?_
    refine st_calli (np := 2) hC (c_So_isNear l y 7 y.toInt (rfl) (by omega) (by omega)) ⟨wl_So_83, wt_So_isNear, wc_So_isNear, wn_So⟩ ⟨by decide, by decide, by decide +kernel⟩ ⟨Nat.le_of_ble_eq_true rfl, Nat.le_of_ble_eq_true rfl⟩ hl.1 rfl (rest := []) rfl (Nat.le_of_ble_eq_true rfl) ⟨Nat.zero_le _, Nat.zero_le _⟩ d_So_isPoint_12 (fun rr hrr => ?_)
    subst hrr
    refine bz_eq (tgt := 31) hx hb d_So_isPoint_15 (by decide) (fun h2 => ?_) (fun h2 => ?_)
    · skip
      refine lv_iconst (v := 0) hx hb d_So_isPoint_31 (by decide) ?_
      exact hret _ _ _ d_So_isPoint_32 (by first | exact Or.inl rfl | exact Or.inr rfl | assumption) ((bI_f (by omega)).symm)
    · skip
      refine lv_iload_n hx hb d_So_isPoint_18 rfl (lv_at hl 2 rfl) ?_
      refine lv_bipush (v := 7) hx hb d_So_isPoint_19 (by decide) ?_
      refine st_calli (np := 2) hC (c_So_isNear l z 7 z.toInt (rfl) (by omega) (by omega)) ⟨wl_So_83, wt_So_isNear, wc_So_isNear, wn_So⟩ ⟨by decide, by decide, by decide +kernel⟩ ⟨Nat.le_of_ble_eq_true rfl, Nat.le_of_ble_eq_true rfl⟩ hl.1 rfl (rest := []) rfl (Nat.le_of_ble_eq_true rfl) ⟨Nat.zero_le _, Nat.zero_le _⟩ d_So_isPoint_21 (fun rr hrr => ?_)
      subst hrr
      refine bz_eq (tgt := 31) hx hb d_So_isPoint_24 (by decide) (fun h3 => ?_) (fun h3 => ?_)
      · skip
        refine lv_iconst (v := 0) hx hb d_So_isPoint_31 (by decide) ?_
        exact hret _ _ _ d_So_isPoint_32 (by first | exact Or.inl rfl | exact Or.inr rfl | assumption) ((bI_f (by omega)).symm)
      · skip
        refine lv_iconst (v := 1) hx hb d_So_isPoint_27 (by decide) ?_
        refine lv_goto (tgt := 32) hx hb d_So_isPoint_28 (by decide) ?_
        exact hret _ _ _ d_So_isPoint_32 (by first | exact Or.inl rfl | exact Or.inr rfl | assumption) ((bI_t (by omega)).symm)
set_option maxHeartbeats 400000 in
set_option maxRecDepth 100000 in
theorem c_So_isStep (l : Launch) (u : Int32) (v : Int32) (w : Int32)   : SMi l y_So_isStep b_So_isStep 4 (some .boolean) 2 43 [.int u, .int v, .int w] (fun r => r = bI ((-3 ≤ u.toInt ∧ u.toInt ≤ 3 ∧ -3 ≤ v.toInt ∧ v.toInt ≤ 3 ∧ -3 ≤ w.toInt ∧ w.toInt ≤ 3) ∧ ¬ (u.toInt = 0 ∧ v.toInt = 0 ∧ w.toInt = 0))) := by
  refine st_entz (own := R_So) (by decide +kernel) rfl (Nat.le_of_ble_eq_true rfl) ?_
  intro p e s m args below meth c Q hC hret ls hl
  have hx := hC.1
  have hb := hC.2.1
  replace hl : lv_has ls 4 [(0, .int u), (1, .int v), (2, .int w)] := hl
  refine lv_iload_n hx hb d_So_isStep_0 rfl (lv_at hl 0 rfl) ?_
  refine yz_ne hx hb u.toInt (rfl) d_So_isStep_1 (tgt := 12) (by decide) (fun h1 => ?_) (fun h1 => ?_)
  · skip
    refine lv_iconst (v := 1) hx hb d_So_isStep_12 (by decide) ?_
    refine lv_goto (tgt := 17) hx hb d_So_isStep_13 (by decide) ?_
    refine lv_istore_n (lv' := [(3, .int 1), (0, .int u), (1, .int v), (2, .int w)]) hx hb d_So_isStep_17 rfl hl (by decide) rfl (fun ls hl => ?_)
    refine lv_iload_n hx hb d_So_isStep_18 rfl (lv_at hl 0 rfl) ?_
    refine yz_eq hx hb 1 (rfl) d_So_isStep_19 (tgt := 50) (by decide) (fun h2 => ?_) (fun h2 => ?_)
    · first | contradiction | (exfalso; omega)
    · skip
      refine lv_iload_n hx hb d_So_isStep_22 rfl (lv_at hl 1 rfl) ?_
      refine lv_iconst (v := 3) hx hb d_So_isStep_23 (by decide) ?_
      refine st_calli (np := 2) hC (c_So_isNear l u 3 u.toInt (rfl) (by omega) (by omega)) ⟨wl_So_83, wt_So_isNear, wc_So_isNear, wn_So⟩ ⟨by decide, by decide, by decide +kernel⟩ ⟨Nat.le_of_ble_eq_true rfl, Nat.le_of_ble_eq_true rfl⟩ hl.1 rfl (rest := []) rfl (Nat.le_of_ble_eq_true rfl) ⟨Nat.zero_le _, Nat.zero_le _⟩ d_So_isStep_24 (fun rr hrr => ?_)
      subst hrr
      refine bz_eq (tgt := 50) hx hb d_So_isStep_27 (by decide) (fun h3 => ?_) (fun h3 => ?_)
      · skip
        refine lv_iconst (v := 0) hx hb d_So_isStep_50 (by decide) ?_
        exact hret _ _ _ d_So_isStep_51 (by first | exact Or.inl rfl | exact Or.inr rfl | assumption) ((bI_f (by omega)).symm)
      · skip
        refine lv_iload_n hx hb d_So_isStep_30 rfl (lv_at hl 2 rfl) ?_
        refine lv_iconst (v := 3) hx hb d_So_isStep_31 (by decide) ?_
        refine st_calli (np := 2) hC (c_So_isNear l v 3 v.toInt (rfl) (by omega) (by omega)) ⟨wl_So_83, wt_So_isNear, wc_So_isNear, wn_So⟩ ⟨by decide, by decide, by decide +kernel⟩ ⟨Nat.le_of_ble_eq_true rfl, Nat.le_of_ble_eq_true rfl⟩ hl.1 rfl (rest := []) rfl (Nat.le_of_ble_eq_true rfl) ⟨Nat.zero_le _, Nat.zero_le _⟩ d_So_isStep_32 (fun rr hrr => ?_)
        subst hrr
        refine bz_eq (tgt := 50) hx hb d_So_isStep_35 (by decide) (fun h4 => ?_) (fun h4 => ?_)
        · skip
          refine lv_iconst (v := 0) hx hb d_So_isStep_50 (by decide) ?_
          exact hret _ _ _ d_So_isStep_51 (by first | exact Or.inl rfl | exact Or.inr rfl | assumption) ((bI_f (by omega)).symm)
        · skip
          refine lv_iload_n hx hb d_So_isStep_38 rfl (lv_at hl 3 rfl) ?_
          refine lv_iconst (v := 3) hx hb d_So_isStep_39 (by decide) ?_
          refine st_calli (np := 2) hC (c_So_isNear l w 3 w.toInt (rfl) (by omega) (by omega)) ⟨wl_So_83, wt_So_isNear, wc_So_isNear, wn_So⟩ ⟨by decide, by decide, by decide +kernel⟩ ⟨Nat.le_of_ble_eq_true rfl, Nat.le_of_ble_eq_true rfl⟩ hl.1 rfl (rest := []) rfl (Nat.le_of_ble_eq_true rfl) ⟨Nat.zero_le _, Nat.zero_le _⟩ d_So_isStep_40 (fun rr hrr => ?_)
          subst hrr
          refine bz_eq (tgt := 50) hx hb d_So_isStep_43 (by decide) (fun h5 => ?_) (fun h5 => ?_)
          · skip
            refine lv_iconst (v := 0) hx hb d_So_isStep_50 (by decide) ?_
            exact hret _ _ _ d_So_isStep_51 (by first | exact Or.inl rfl | exact Or.inr rfl | assumption) ((bI_f (by omega)).symm)
          · skip
            refine lv_iconst (v := 1) hx hb d_So_isStep_46 (by decide) ?_
            refine lv_goto (tgt := 51) hx hb d_So_isStep_47 (by decide) ?_
            exact hret _ _ _ d_So_isStep_51 (by first | exact Or.inl rfl | exact Or.inr rfl | assumption) ((bI_t (by omega)).symm)
  · skip
    refine lv_iload_n hx hb d_So_isStep_4 rfl (lv_at hl 1 rfl) ?_
    refine yz_ne hx hb v.toInt (rfl) d_So_isStep_5 (tgt := 12) (by decide) (fun h6 => ?_) (fun h6 => ?_)
    · skip
      refine lv_iconst (v := 1) hx hb d_So_isStep_12 (by decide) ?_
      refine lv_goto (tgt := 17) hx hb d_So_isStep_13 (by decide) ?_
      refine lv_istore_n (lv' := [(3, .int 1), (0, .int u), (1, .int v), (2, .int w)]) hx hb d_So_isStep_17 rfl hl (by decide) rfl (fun ls hl => ?_)
      refine lv_iload_n hx hb d_So_isStep_18 rfl (lv_at hl 0 rfl) ?_
      refine yz_eq hx hb 1 (rfl) d_So_isStep_19 (tgt := 50) (by decide) (fun h7 => ?_) (fun h7 => ?_)
      · first | contradiction | (exfalso; omega)
      · skip
        refine lv_iload_n hx hb d_So_isStep_22 rfl (lv_at hl 1 rfl) ?_
        refine lv_iconst (v := 3) hx hb d_So_isStep_23 (by decide) ?_
        refine st_calli (np := 2) hC (c_So_isNear l u 3 u.toInt (rfl) (by omega) (by omega)) ⟨wl_So_83, wt_So_isNear, wc_So_isNear, wn_So⟩ ⟨by decide, by decide, by decide +kernel⟩ ⟨Nat.le_of_ble_eq_true rfl, Nat.le_of_ble_eq_true rfl⟩ hl.1 rfl (rest := []) rfl (Nat.le_of_ble_eq_true rfl) ⟨Nat.zero_le _, Nat.zero_le _⟩ d_So_isStep_24 (fun rr hrr => ?_)
        subst hrr
        refine bz_eq (tgt := 50) hx hb d_So_isStep_27 (by decide) (fun h8 => ?_) (fun h8 => ?_)
        · skip
          refine lv_iconst (v := 0) hx hb d_So_isStep_50 (by decide) ?_
          exact hret _ _ _ d_So_isStep_51 (by first | exact Or.inl rfl | exact Or.inr rfl | assumption) ((bI_f (by omega)).symm)
        · skip
          refine lv_iload_n hx hb d_So_isStep_30 rfl (lv_at hl 2 rfl) ?_
          refine lv_iconst (v := 3) hx hb d_So_isStep_31 (by decide) ?_
          refine st_calli (np := 2) hC (c_So_isNear l v 3 v.toInt (rfl) (by omega) (by omega)) ⟨wl_So_83, wt_So_isNear, wc_So_isNear, wn_So⟩ ⟨by decide, by decide, by decide +kernel⟩ ⟨Nat.le_of_ble_eq_true rfl, Nat.le_of_ble_eq_true rfl⟩ hl.1 rfl (rest := []) rfl (Nat.le_of_ble_eq_true rfl) ⟨Nat.zero_le _, Nat.zero_le _⟩ d_So_isStep_32 (fun rr hrr => ?_)
          subst hrr
          refine bz_eq (tgt := 50) hx hb d_So_isStep_35 (by decide) (fun h9 => ?_) (fun h9 => ?_)
          · skip
            refine lv_iconst (v := 0) hx hb d_So_isStep_50 (by decide) ?_
            exact hret _ _ _ d_So_isStep_51 (by first | exact Or.inl rfl | exact Or.inr rfl | assumption) ((bI_f (by omega)).symm)
          · skip
            refine lv_iload_n hx hb d_So_isStep_38 rfl (lv_at hl 3 rfl) ?_
            refine lv_iconst (v := 3) hx hb d_So_isStep_39 (by decide) ?_
            refine st_calli (np := 2) hC (c_So_isNear l w 3 w.toInt (rfl) (by omega) (by omega)) ⟨wl_So_83, wt_So_isNear, wc_So_isNear, wn_So⟩ ⟨by decide, by decide, by decide +kernel⟩ ⟨Nat.le_of_ble_eq_true rfl, Nat.le_of_ble_eq_true rfl⟩ hl.1 rfl (rest := []) rfl (Nat.le_of_ble_eq_true rfl) ⟨Nat.zero_le _, Nat.zero_le _⟩ d_So_isStep_40 (fun rr hrr => ?_)
            subst hrr
            refine bz_eq (tgt := 50) hx hb d_So_isStep_43 (by decide) (fun h10 => ?_) (fun h10 => ?_)
            · skip
              refine lv_iconst (v := 0) hx hb d_So_isStep_50 (by decide) ?_
              exact hret _ _ _ d_So_isStep_51 (by first | exact Or.inl rfl | exact Or.inr rfl | assumption) ((bI_f (by omega)).symm)
            · skip
              refine lv_iconst (v := 1) hx hb d_So_isStep_46 (by decide) ?_
              refine lv_goto (tgt := 51) hx hb d_So_isStep_47 (by decide) ?_
              exact hret _ _ _ d_So_isStep_51 (by first | exact Or.inl rfl | exact Or.inr rfl | assumption) ((bI_t (by omega)).symm)
    · skip
      refine lv_iload_n hx hb d_So_isStep_8 rfl (lv_at hl 2 rfl) ?_
      refine yz_eq hx hb w.toInt (rfl) d_So_isStep_9 (tgt := 16) (by decide) (fun h11 => ?_) (fun h11 => ?_)
      · skip
        refine lv_iconst (v := 0) hx hb d_So_isStep_16 (by decide) ?_
        refine lv_istore_n (lv' := [(3, .int 0), (0, .int u), (1, .int v), (2, .int w)]) hx hb d_So_isStep_17 rfl hl (by decide) rfl (fun ls hl => ?_)
        refine lv_iload_n hx hb d_So_isStep_18 rfl (lv_at hl 0 rfl) ?_
        refine yz_eq hx hb 0 (rfl) d_So_isStep_19 (tgt := 50) (by decide) (fun h12 => ?_) (fun h12 => ?_)
        · skip
          refine lv_iconst (v := 0) hx hb d_So_isStep_50 (by decide) ?_
          exact hret _ _ _ d_So_isStep_51 (by first | exact Or.inl rfl | exact Or.inr rfl | assumption) ((bI_f (by omega)).symm)
        · first | contradiction | (exfalso; omega)
      · skip
        refine lv_iconst (v := 1) hx hb d_So_isStep_12 (by decide) ?_
        refine lv_goto (tgt := 17) hx hb d_So_isStep_13 (by decide) ?_
        refine lv_istore_n (lv' := [(3, .int 1), (0, .int u), (1, .int v), (2, .int w)]) hx hb d_So_isStep_17 rfl hl (by decide) rfl (fun ls hl => ?_)
        refine lv_iload_n hx hb d_So_isStep_18 rfl (lv_at hl 0 rfl) ?_
        refine yz_eq hx hb 1 (rfl) d_So_isStep_19 (tgt := 50) (by decide) (fun h13 => ?_) (fun h13 => ?_)
        · first | contradiction | (exfalso; omega)
        · skip
          refine lv_iload_n hx hb d_So_isStep_22 rfl (lv_at hl 1 rfl) ?_
          refine lv_iconst (v := 3) hx hb d_So_isStep_23 (by decide) ?_
          refine st_calli (np := 2) hC (c_So_isNear l u 3 u.toInt (rfl) (by omega) (by omega)) ⟨wl_So_83, wt_So_isNear, wc_So_isNear, wn_So⟩ ⟨by decide, by decide, by decide +kernel⟩ ⟨Nat.le_of_ble_eq_true rfl, Nat.le_of_ble_eq_true rfl⟩ hl.1 rfl (rest := []) rfl (Nat.le_of_ble_eq_true rfl) ⟨Nat.zero_le _, Nat.zero_le _⟩ d_So_isStep_24 (fun rr hrr => ?_)
          subst hrr
          refine bz_eq (tgt := 50) hx hb d_So_isStep_27 (by decide) (fun h14 => ?_) (fun h14 => ?_)
          · skip
            refine lv_iconst (v := 0) hx hb d_So_isStep_50 (by decide) ?_
            exact hret _ _ _ d_So_isStep_51 (by first | exact Or.inl rfl | exact Or.inr rfl | assumption) ((bI_f (by omega)).symm)
          · skip
            refine lv_iload_n hx hb d_So_isStep_30 rfl (lv_at hl 2 rfl) ?_
            refine lv_iconst (v := 3) hx hb d_So_isStep_31 (by decide) ?_
            refine st_calli (np := 2) hC (c_So_isNear l v 3 v.toInt (rfl) (by omega) (by omega)) ⟨wl_So_83, wt_So_isNear, wc_So_isNear, wn_So⟩ ⟨by decide, by decide, by decide +kernel⟩ ⟨Nat.le_of_ble_eq_true rfl, Nat.le_of_ble_eq_true rfl⟩ hl.1 rfl (rest := []) rfl (Nat.le_of_ble_eq_true rfl) ⟨Nat.zero_le _, Nat.zero_le _⟩ d_So_isStep_32 (fun rr hrr => ?_)
            subst hrr
            refine bz_eq (tgt := 50) hx hb d_So_isStep_35 (by decide) (fun h15 => ?_) (fun h15 => ?_)
            · skip
              refine lv_iconst (v := 0) hx hb d_So_isStep_50 (by decide) ?_
              exact hret _ _ _ d_So_isStep_51 (by first | exact Or.inl rfl | exact Or.inr rfl | assumption) ((bI_f (by omega)).symm)
            · skip
              refine lv_iload_n hx hb d_So_isStep_38 rfl (lv_at hl 3 rfl) ?_
              refine lv_iconst (v := 3) hx hb d_So_isStep_39 (by decide) ?_
              refine st_calli (np := 2) hC (c_So_isNear l w 3 w.toInt (rfl) (by omega) (by omega)) ⟨wl_So_83, wt_So_isNear, wc_So_isNear, wn_So⟩ ⟨by decide, by decide, by decide +kernel⟩ ⟨Nat.le_of_ble_eq_true rfl, Nat.le_of_ble_eq_true rfl⟩ hl.1 rfl (rest := []) rfl (Nat.le_of_ble_eq_true rfl) ⟨Nat.zero_le _, Nat.zero_le _⟩ d_So_isStep_40 (fun rr hrr => ?_)
              subst hrr
              refine bz_eq (tgt := 50) hx hb d_So_isStep_43 (by decide) (fun h16 => ?_) (fun h16 => ?_)
              · skip
                refine lv_iconst (v := 0) hx hb d_So_isStep_50 (by decide) ?_
                exact hret _ _ _ d_So_isStep_51 (by first | exact Or.inl rfl | exact Or.inr rfl | assumption) ((bI_f (by omega)).symm)
              · skip
                refine lv_iconst (v := 1) hx hb d_So_isStep_46 (by decide) ?_
                refine lv_goto (tgt := 51) hx hb d_So_isStep_47 (by decide) ?_
                exact hret _ _ _ d_So_isStep_51 (by first | exact Or.inl rfl | exact Or.inr rfl | assumption) ((bI_t (by omega)).symm)
set_option maxHeartbeats 400000 in
set_option maxRecDepth 100000 in
theorem c_So_isLane (l : Launch) (v : Int32)   : SMi l y_So_isLane b_So_isLane 1 (some .boolean) 1 22 [.int v] (fun r => r = bI (0 ≤ v.toInt ∧ v.toInt ≤ 2)) := by
  refine st_entz (own := R_So) (by decide +kernel) rfl (Nat.le_of_ble_eq_true rfl) ?_
  intro p e s m args below meth c Q hC hret ls hl
  have hx := hC.1
  have hb := hC.2.1
  replace hl : lv_has ls 1 [(0, .int v)] := hl
  refine lv_iload_n hx hb d_So_isLane_0 rfl (lv_at hl 0 rfl) ?_
  refine lv_iconst (v := 0) hx hb d_So_isLane_1 (by decide) ?_
  refine lv_iconst (v := 2) hx hb d_So_isLane_2 (by decide) ?_
  refine st_calli (np := 3) hC (c_So_isBetween l v 0 2 v.toInt 0 2 rfl rfl rfl) ⟨wl_So_106, wt_So_isBetween, wc_So_isBetween, wn_So⟩ ⟨by decide, by decide, by decide +kernel⟩ ⟨Nat.le_of_ble_eq_true rfl, Nat.le_of_ble_eq_true rfl⟩ hl.1 rfl (rest := []) rfl (Nat.le_of_ble_eq_true rfl) ⟨Nat.zero_le _, Nat.zero_le _⟩ d_So_isLane_3 (fun rr hrr => ?_)
  subst hrr
  exact hret _ _ _ d_So_isLane_6 (bI_01) (rfl)
set_option maxHeartbeats 400000 in
set_option maxRecDepth 100000 in
theorem c_So_rowPlace (l : Launch) (y : Int) (zc : Int)  (h1 : -1000 ≤ y) (h2 : y ≤ 1000) (h3 : -1000 ≤ zc) (h4 : zc ≤ 1000) : SMi l y_So_rowPlace b_So_rowPlace 3 (some .int) 0 0 [.int (iI y), .int (iI zc)] (fun r => r = iI (rpl y zc)) := by
  refine st_enti (own := R_So) (by decide +kernel) rfl (Nat.le_of_ble_eq_true rfl) ?_
  intro p e s m args below meth c Q hC hret ls hl
  have hx := hC.1
  have hb := hC.2.1
  replace hl : lv_has ls 3 [(0, .int (iI y)), (1, .int (iI zc))] := hl
  refine lv_iload_n hx hb d_So_rowPlace_0 rfl (lv_at hl 0 rfl) ?_
  refine lv_bipush (v := (-7)) hx hb d_So_rowPlace_1 (by decide) ?_
  refine zc_lt hx hb y (-7) (by omega) (by omega) (by omega) (by omega) d_So_rowPlace_3 (tgt := 28) (by decide) (fun h11 => ?_) (fun h11 => ?_)
  · skip
    refine lv_iconst (v := 0) hx hb d_So_rowPlace_28 (by decide) ?_
    refine lv_istore_n (lv' := [(2, .int 0), (0, .int (iI y)), (1, .int (iI zc))]) hx hb d_So_rowPlace_29 rfl hl (by decide) rfl (fun ls hl => ?_)
    refine lv_iload_n hx hb d_So_rowPlace_30 rfl (lv_at hl 0 rfl) ?_
    refine lv_if_eq (tgt := 49) hx hb d_So_rowPlace_31 (by decide) (fun h12 => ?_) (fun h12 => ?_)
    · skip
      refine lv_iconst (v := (-1)) hx hb d_So_rowPlace_49 (by decide) ?_
      exact hret _ _ _ d_So_rowPlace_50 (by unfold rpl; rw [if_neg (by omega)]; rfl)
    · exact absurd h12 (by decide)
  · skip
    refine lv_iload_n hx hb d_So_rowPlace_6 rfl (lv_at hl 0 rfl) ?_
    refine lv_bipush (v := 7) hx hb d_So_rowPlace_7 (by decide) ?_
    refine zc_gt hx hb y 7 (by omega) (by omega) (by omega) (by omega) d_So_rowPlace_9 (tgt := 28) (by decide) (fun h13 => ?_) (fun h13 => ?_)
    · skip
      refine lv_iconst (v := 0) hx hb d_So_rowPlace_28 (by decide) ?_
      refine lv_istore_n (lv' := [(2, .int 0), (0, .int (iI y)), (1, .int (iI zc))]) hx hb d_So_rowPlace_29 rfl hl (by decide) rfl (fun ls hl => ?_)
      refine lv_iload_n hx hb d_So_rowPlace_30 rfl (lv_at hl 0 rfl) ?_
      refine lv_if_eq (tgt := 49) hx hb d_So_rowPlace_31 (by decide) (fun h14 => ?_) (fun h14 => ?_)
      · skip
        refine lv_iconst (v := (-1)) hx hb d_So_rowPlace_49 (by decide) ?_
        exact hret _ _ _ d_So_rowPlace_50 (by unfold rpl; rw [if_neg (by omega)]; rfl)
      · exact absurd h14 (by decide)
    · skip
      refine lv_iload_n hx hb d_So_rowPlace_12 rfl (lv_at hl 1 rfl) ?_
      refine lv_bipush (v := (-7)) hx hb d_So_rowPlace_13 (by decide) ?_
      refine zc_lt hx hb zc (-7) (by omega) (by omega) (by omega) (by omega) d_So_rowPlace_15 (tgt := 28) (by decide) (fun h15 => ?_) (fun h15 => ?_)
      · skip
        refine lv_iconst (v := 0) hx hb d_So_rowPlace_28 (by decide) ?_
        refine lv_istore_n (lv' := [(2, .int 0), (0, .int (iI y)), (1, .int (iI zc))]) hx hb d_So_rowPlace_29 rfl hl (by decide) rfl (fun ls hl => ?_)
        refine lv_iload_n hx hb d_So_rowPlace_30 rfl (lv_at hl 0 rfl) ?_
        refine lv_if_eq (tgt := 49) hx hb d_So_rowPlace_31 (by decide) (fun h16 => ?_) (fun h16 => ?_)
        · skip
          refine lv_iconst (v := (-1)) hx hb d_So_rowPlace_49 (by decide) ?_
          exact hret _ _ _ d_So_rowPlace_50 (by unfold rpl; rw [if_neg (by omega)]; rfl)
        · exact absurd h16 (by decide)
      · skip
        refine lv_iload_n hx hb d_So_rowPlace_18 rfl (lv_at hl 1 rfl) ?_
        refine lv_bipush (v := 7) hx hb d_So_rowPlace_19 (by decide) ?_
        refine zc_gt hx hb zc 7 (by omega) (by omega) (by omega) (by omega) d_So_rowPlace_21 (tgt := 28) (by decide) (fun h17 => ?_) (fun h17 => ?_)
        · skip
          refine lv_iconst (v := 0) hx hb d_So_rowPlace_28 (by decide) ?_
          refine lv_istore_n (lv' := [(2, .int 0), (0, .int (iI y)), (1, .int (iI zc))]) hx hb d_So_rowPlace_29 rfl hl (by decide) rfl (fun ls hl => ?_)
          refine lv_iload_n hx hb d_So_rowPlace_30 rfl (lv_at hl 0 rfl) ?_
          refine lv_if_eq (tgt := 49) hx hb d_So_rowPlace_31 (by decide) (fun h18 => ?_) (fun h18 => ?_)
          · skip
            refine lv_iconst (v := (-1)) hx hb d_So_rowPlace_49 (by decide) ?_
            exact hret _ _ _ d_So_rowPlace_50 (by unfold rpl; rw [if_neg (by omega)]; rfl)
          · exact absurd h18 (by decide)
        · skip
          refine lv_iconst (v := 1) hx hb d_So_rowPlace_24 (by decide) ?_
          refine lv_goto (tgt := 29) hx hb d_So_rowPlace_25 (by decide) ?_
          refine lv_istore_n (lv' := [(2, .int 1), (0, .int (iI y)), (1, .int (iI zc))]) hx hb d_So_rowPlace_29 rfl hl (by decide) rfl (fun ls hl => ?_)
          refine lv_iload_n hx hb d_So_rowPlace_30 rfl (lv_at hl 0 rfl) ?_
          refine lv_if_eq (tgt := 49) hx hb d_So_rowPlace_31 (by decide) (fun h19 => ?_) (fun h19 => ?_)
          · exact absurd h19 (by decide)
          · skip
            refine lv_iload_n hx hb d_So_rowPlace_34 rfl (lv_at hl 2 rfl) ?_
            refine lv_bipush (v := (-7)) hx hb d_So_rowPlace_35 (by decide) ?_
            refine lv_isub hx hb d_So_rowPlace_37 ?_
            refine topi_eq (y := iI (zc - (-7))) ((congrArg (fun z : Int32 => (iI zc) - z) (show ((-7) : Int32) = iI (-7) by decide)).trans (iI_sub zc (-7))) ?_
            refine lv_bipush (v := 15) hx hb d_So_rowPlace_38 (by decide) ?_
            refine lv_imul hx hb d_So_rowPlace_40 ?_
            refine topi_eq (iI_mul (zc - (-7)) 15) ?_
            refine lv_iload_n hx hb d_So_rowPlace_41 rfl (lv_at hl 1 rfl) ?_
            refine lv_bipush (v := (-7)) hx hb d_So_rowPlace_42 (by decide) ?_
            refine lv_isub hx hb d_So_rowPlace_44 ?_
            refine topi_eq (y := iI (y - (-7))) ((congrArg (fun z : Int32 => (iI y) - z) (show ((-7) : Int32) = iI (-7) by decide)).trans (iI_sub y (-7))) ?_
            refine lv_iadd hx hb d_So_rowPlace_45 ?_
            refine topi_eq (iI_add ((zc - (-7)) * 15) (y - (-7))) ?_
            refine lv_goto (tgt := 50) hx hb d_So_rowPlace_46 (by decide) ?_
            exact hret _ _ _ d_So_rowPlace_50 (by unfold rpl; rw [if_pos (by omega)]; exact congrArg iI (by omega))
set_option maxHeartbeats 400000 in
set_option maxRecDepth 100000 in
theorem c_Rd_numberCount (l : Launch) (k : Nat)  (hk : k ≤ 9) : SMi l y_Rd_numberCount b_Rd_numberCount 1 (some .int) 0 0 [.int (nI k)] (fun r => r = nI (nOf k)) := by
  refine st_enti (own := R_Rd) (by decide +kernel) rfl (Nat.le_of_ble_eq_true rfl) ?_
  intro p e s m args below meth c Q hC hret ls hl
  have hx := hC.1
  have hb := hC.2.1
  replace hl : lv_has ls 1 [(0, .int (nI k))] := hl
  refine lv_iload_n hx hb d_Rd_numberCount_0 rfl (lv_at hl 0 rfl) ?_
  by_cases h1_0 : k = 0
  · have ev : (nI k).toInt = 0 := by rw [h1_0]; rfl
    refine lv_tableIn (tgt := 59) hx hb d_Rd_numberCount_1 (by rw [ev]; decide) (by rw [ev]; decide) (by rw [ev]; rfl) (by decide) ?_
    refine lv_iconst (v := 4) hx hb d_Rd_numberCount_59 (by decide) ?_
    exact hret _ _ _ d_Rd_numberCount_60 (by unfold nOf; simp_all; rfl)
  by_cases h1_1 : k = 1
  · have ev : (nI k).toInt = 1 := by rw [h1_1]; rfl
    refine lv_tableIn (tgt := 56) hx hb d_Rd_numberCount_1 (by rw [ev]; decide) (by rw [ev]; decide) (by rw [ev]; rfl) (by decide) ?_
    refine lv_bipush (v := 6) hx hb d_Rd_numberCount_56 (by decide) ?_
    exact hret _ _ _ d_Rd_numberCount_58 (by unfold nOf; simp_all; rfl)
  by_cases h1_2 : k = 2
  · have ev : (nI k).toInt = 2 := by rw [h1_2]; rfl
    refine lv_tableIn (tgt := 59) hx hb d_Rd_numberCount_1 (by rw [ev]; decide) (by rw [ev]; decide) (by rw [ev]; rfl) (by decide) ?_
    refine lv_iconst (v := 4) hx hb d_Rd_numberCount_59 (by decide) ?_
    exact hret _ _ _ d_Rd_numberCount_60 (by unfold nOf; simp_all; rfl)
  by_cases h1_3 : k = 3
  · have ev : (nI k).toInt = 3 := by rw [h1_3]; rfl
    refine lv_tableIn (tgt := 65) hx hb d_Rd_numberCount_1 (by rw [ev]; decide) (by rw [ev]; decide) (by rw [ev]; rfl) (by decide) ?_
    refine lv_iconst (v := 0) hx hb d_Rd_numberCount_65 (by decide) ?_
    exact hret _ _ _ d_Rd_numberCount_66 (by unfold nOf; simp_all; rfl)
  by_cases h1_4 : k = 4
  · have ev : (nI k).toInt = 4 := by rw [h1_4]; rfl
    refine lv_tableIn (tgt := 65) hx hb d_Rd_numberCount_1 (by rw [ev]; decide) (by rw [ev]; decide) (by rw [ev]; rfl) (by decide) ?_
    refine lv_iconst (v := 0) hx hb d_Rd_numberCount_65 (by decide) ?_
    exact hret _ _ _ d_Rd_numberCount_66 (by unfold nOf; simp_all; rfl)
  by_cases h1_5 : k = 5
  · have ev : (nI k).toInt = 5 := by rw [h1_5]; rfl
    refine lv_tableIn (tgt := 65) hx hb d_Rd_numberCount_1 (by rw [ev]; decide) (by rw [ev]; decide) (by rw [ev]; rfl) (by decide) ?_
    refine lv_iconst (v := 0) hx hb d_Rd_numberCount_65 (by decide) ?_
    exact hret _ _ _ d_Rd_numberCount_66 (by unfold nOf; simp_all; rfl)
  by_cases h1_6 : k = 6
  · have ev : (nI k).toInt = 6 := by rw [h1_6]; rfl
    refine lv_tableIn (tgt := 61) hx hb d_Rd_numberCount_1 (by rw [ev]; decide) (by rw [ev]; decide) (by rw [ev]; rfl) (by decide) ?_
    refine lv_iconst (v := 3) hx hb d_Rd_numberCount_61 (by decide) ?_
    exact hret _ _ _ d_Rd_numberCount_62 (by unfold nOf; simp_all; rfl)
  by_cases h1_7 : k = 7
  · have ev : (nI k).toInt = 7 := by rw [h1_7]; rfl
    refine lv_tableIn (tgt := 65) hx hb d_Rd_numberCount_1 (by rw [ev]; decide) (by rw [ev]; decide) (by rw [ev]; rfl) (by decide) ?_
    refine lv_iconst (v := 0) hx hb d_Rd_numberCount_65 (by decide) ?_
    exact hret _ _ _ d_Rd_numberCount_66 (by unfold nOf; simp_all; rfl)
  by_cases h1_8 : k = 8
  · have ev : (nI k).toInt = 8 := by rw [h1_8]; rfl
    refine lv_tableIn (tgt := 65) hx hb d_Rd_numberCount_1 (by rw [ev]; decide) (by rw [ev]; decide) (by rw [ev]; rfl) (by decide) ?_
    refine lv_iconst (v := 0) hx hb d_Rd_numberCount_65 (by decide) ?_
    exact hret _ _ _ d_Rd_numberCount_66 (by unfold nOf; simp_all; rfl)
  by_cases h1_9 : k = 9
  · have ev : (nI k).toInt = 9 := by rw [h1_9]; rfl
    refine lv_tableIn (tgt := 63) hx hb d_Rd_numberCount_1 (by rw [ev]; decide) (by rw [ev]; decide) (by rw [ev]; rfl) (by decide) ?_
    refine lv_iconst (v := 1) hx hb d_Rd_numberCount_63 (by decide) ?_
    exact hret _ _ _ d_Rd_numberCount_64 (by unfold nOf; simp_all; rfl)
  have ev : (nI k).toInt < 0 ∨ 9 < (nI k).toInt := by
    rw [show (nI k).toInt = (↑k : Int) from iI_toInt (z := (↑k : Int)) (by omega) (by omega)]
    omega
  refine lv_tableOut (tgt := 65) hx hb d_Rd_numberCount_1 ev (by decide) ?_
  refine lv_iconst (v := 0) hx hb d_Rd_numberCount_65 (by decide) ?_
  exact hret _ _ _ d_Rd_numberCount_66 (by unfold nOf; simp_all; rfl)
set_option maxHeartbeats 400000 in
set_option maxRecDepth 100000 in
theorem c_Rd_leastNumber (l : Launch) (k : Nat) (i : Nat)  (hk : k ≤ 10) (hi : i ≤ 6) : SMi l y_Rd_leastNumber b_Rd_leastNumber 2 (some .int) 0 0 [.int (nI k), .int (nI i)] (fun r => r = iI (lsN k i)) := by
  refine st_enti (own := R_Rd) (by decide +kernel) rfl (Nat.le_of_ble_eq_true rfl) ?_
  intro p e s m args below meth c Q hC hret ls hl
  have hx := hC.1
  have hb := hC.2.1
  replace hl : lv_has ls 2 [(0, .int (nI k)), (1, .int (nI i))] := hl
  refine lv_iload_n hx hb d_Rd_leastNumber_0 rfl (lv_at hl 0 rfl) ?_
  refine lv_bipush (v := 9) hx hb d_Rd_leastNumber_1 (by decide) ?_
  refine nc_ne hx hb k 9 (by omega) (by omega) d_Rd_leastNumber_3 (tgt := 8) (by decide) (fun h1 => ?_) (fun h1 => ?_)
  · skip
    refine lv_iload_n hx hb d_Rd_leastNumber_8 rfl (lv_at hl 0 rfl) ?_
    refine nz_ne hx hb k (by omega) d_Rd_leastNumber_9 (tgt := 21) (by decide) (fun h2 => ?_) (fun h2 => ?_)
    · skip
      refine lv_bipush (v := (-20)) hx hb d_Rd_leastNumber_21 (by decide) ?_
      exact hret _ _ _ d_Rd_leastNumber_23 (by unfold lsN; simp_all; rfl)
    · skip
      refine lv_iload_n hx hb d_Rd_leastNumber_12 rfl (lv_at hl 1 rfl) ?_
      refine lv_iconst (v := 3) hx hb d_Rd_leastNumber_13 (by decide) ?_
      refine nc_ne hx hb i 3 (by omega) (by omega) d_Rd_leastNumber_14 (tgt := 21) (by decide) (fun h3 => ?_) (fun h3 => ?_)
      · skip
        refine lv_bipush (v := (-20)) hx hb d_Rd_leastNumber_21 (by decide) ?_
        exact hret _ _ _ d_Rd_leastNumber_23 (by unfold lsN; simp_all; rfl)
      · skip
        refine lv_iconst (v := 0) hx hb d_Rd_leastNumber_17 (by decide) ?_
        refine lv_goto (tgt := 23) hx hb d_Rd_leastNumber_18 (by decide) ?_
        exact hret _ _ _ d_Rd_leastNumber_23 (by unfold lsN; simp_all; rfl)
  · skip
    refine lv_iconst (v := 1) hx hb d_Rd_leastNumber_6 (by decide) ?_
    exact hret _ _ _ d_Rd_leastNumber_7 (by unfold lsN; simp_all; rfl)
set_option maxHeartbeats 400000 in
set_option maxRecDepth 100000 in
theorem c_Rd_isPair (l : Launch) (k : Nat)  (hk : k ≤ 10) : SMi l y_Rd_isPair b_Rd_isPair 1 (some .boolean) 0 0 [.int (nI k)] (fun r => r = bI (3 ≤ k ∧ k ≤ 5)) := by
  refine st_entz (own := R_Rd) (by decide +kernel) rfl (Nat.le_of_ble_eq_true rfl) ?_
  intro p e s m args below meth c Q hC hret ls hl
  have hx := hC.1
  have hb := hC.2.1
  replace hl : lv_has ls 1 [(0, .int (nI k))] := hl
  refine lv_iload_n hx hb d_Rd_isPair_0 rfl (lv_at hl 0 rfl) ?_
  refine lv_iconst (v := 3) hx hb d_Rd_isPair_1 (by decide) ?_
  refine nc_eq hx hb k 3 (by omega) (by omega) d_Rd_isPair_2 (tgt := 15) (by decide) (fun h1 => ?_) (fun h1 => ?_)
  · skip
    refine lv_iconst (v := 1) hx hb d_Rd_isPair_15 (by decide) ?_
    refine lv_goto (tgt := 20) hx hb d_Rd_isPair_16 (by decide) ?_
    exact hret _ _ _ d_Rd_isPair_20 (by first | exact Or.inl rfl | exact Or.inr rfl | assumption) ((bI_t (by omega)).symm)
  · skip
    refine lv_iload_n hx hb d_Rd_isPair_5 rfl (lv_at hl 0 rfl) ?_
    refine lv_iconst (v := 4) hx hb d_Rd_isPair_6 (by decide) ?_
    refine nc_eq hx hb k 4 (by omega) (by omega) d_Rd_isPair_7 (tgt := 15) (by decide) (fun h2 => ?_) (fun h2 => ?_)
    · skip
      refine lv_iconst (v := 1) hx hb d_Rd_isPair_15 (by decide) ?_
      refine lv_goto (tgt := 20) hx hb d_Rd_isPair_16 (by decide) ?_
      exact hret _ _ _ d_Rd_isPair_20 (by first | exact Or.inl rfl | exact Or.inr rfl | assumption) ((bI_t (by omega)).symm)
    · skip
      refine lv_iload_n hx hb d_Rd_isPair_10 rfl (lv_at hl 0 rfl) ?_
      refine lv_iconst (v := 5) hx hb d_Rd_isPair_11 (by decide) ?_
      refine nc_ne hx hb k 5 (by omega) (by omega) d_Rd_isPair_12 (tgt := 19) (by decide) (fun h3 => ?_) (fun h3 => ?_)
      · skip
        refine lv_iconst (v := 0) hx hb d_Rd_isPair_19 (by decide) ?_
        exact hret _ _ _ d_Rd_isPair_20 (by first | exact Or.inl rfl | exact Or.inr rfl | assumption) ((bI_f (by omega)).symm)
      · skip
        refine lv_iconst (v := 1) hx hb d_Rd_isPair_15 (by decide) ?_
        refine lv_goto (tgt := 20) hx hb d_Rd_isPair_16 (by decide) ?_
        exact hret _ _ _ d_Rd_isPair_20 (by first | exact Or.inl rfl | exact Or.inr rfl | assumption) ((bI_t (by omega)).symm)
set_option maxHeartbeats 400000 in
set_option maxRecDepth 100000 in
theorem c_Rd_isLetter (l : Launch) (v : Int32) (v' : Int) (hv : v.toInt = v') : SMi l y_Rd_isLetter b_Rd_isLetter 1 (some .boolean) 0 0 [.int v] (fun r => r = bI (97 ≤ v' ∧ v' ≤ 122)) := by
  refine st_entz (own := R_Rd) (by decide +kernel) rfl (Nat.le_of_ble_eq_true rfl) ?_
  intro p e s m args below meth c Q hC hret ls hl
  have hx := hC.1
  have hb := hC.2.1
  replace hl : lv_has ls 1 [(0, .int v)] := hl
  refine lv_iload_n hx hb d_Rd_isLetter_0 rfl (lv_at hl 0 rfl) ?_
  refine lv_bipush (v := 97) hx hb d_Rd_isLetter_1 (by decide) ?_
  refine yc_lt hx hb v.toInt 97 (rfl) (rfl) d_Rd_isLetter_3 (tgt := 16) (by decide) (fun h1 => ?_) (fun h1 => ?_)
  · skip
    refine lv_iconst (v := 0) hx hb d_Rd_isLetter_16 (by decide) ?_
    exact hret _ _ _ d_Rd_isLetter_17 (by first | exact Or.inl rfl | exact Or.inr rfl | assumption) ((bI_f (by omega)).symm)
  · skip
    refine lv_iload_n hx hb d_Rd_isLetter_6 rfl (lv_at hl 0 rfl) ?_
    refine lv_bipush (v := 122) hx hb d_Rd_isLetter_7 (by decide) ?_
    refine yc_gt hx hb v.toInt 122 (rfl) (rfl) d_Rd_isLetter_9 (tgt := 16) (by decide) (fun h2 => ?_) (fun h2 => ?_)
    · skip
      refine lv_iconst (v := 0) hx hb d_Rd_isLetter_16 (by decide) ?_
      exact hret _ _ _ d_Rd_isLetter_17 (by first | exact Or.inl rfl | exact Or.inr rfl | assumption) ((bI_f (by omega)).symm)
    · skip
      refine lv_iconst (v := 1) hx hb d_Rd_isLetter_12 (by decide) ?_
      refine lv_goto (tgt := 17) hx hb d_Rd_isLetter_13 (by decide) ?_
      exact hret _ _ _ d_Rd_isLetter_17 (by first | exact Or.inl rfl | exact Or.inr rfl | assumption) ((bI_t (by omega)).symm)
set_option maxHeartbeats 400000 in
set_option maxRecDepth 100000 in
theorem c_Rd_isFigure (l : Launch) (v : Int32) (v' : Int) (hv : v.toInt = v') : SMi l y_Rd_isFigure b_Rd_isFigure 1 (some .boolean) 0 0 [.int v] (fun r => r = bI (48 ≤ v' ∧ v' ≤ 57)) := by
  refine st_entz (own := R_Rd) (by decide +kernel) rfl (Nat.le_of_ble_eq_true rfl) ?_
  intro p e s m args below meth c Q hC hret ls hl
  have hx := hC.1
  have hb := hC.2.1
  replace hl : lv_has ls 1 [(0, .int v)] := hl
  refine lv_iload_n hx hb d_Rd_isFigure_0 rfl (lv_at hl 0 rfl) ?_
  refine lv_bipush (v := 48) hx hb d_Rd_isFigure_1 (by decide) ?_
  refine yc_lt hx hb v.toInt 48 (rfl) (rfl) d_Rd_isFigure_3 (tgt := 16) (by decide) (fun h1 => ?_) (fun h1 => ?_)
  · skip
    refine lv_iconst (v := 0) hx hb d_Rd_isFigure_16 (by decide) ?_
    exact hret _ _ _ d_Rd_isFigure_17 (by first | exact Or.inl rfl | exact Or.inr rfl | assumption) ((bI_f (by omega)).symm)
  · skip
    refine lv_iload_n hx hb d_Rd_isFigure_6 rfl (lv_at hl 0 rfl) ?_
    refine lv_bipush (v := 57) hx hb d_Rd_isFigure_7 (by decide) ?_
    refine yc_gt hx hb v.toInt 57 (rfl) (rfl) d_Rd_isFigure_9 (tgt := 16) (by decide) (fun h2 => ?_) (fun h2 => ?_)
    · skip
      refine lv_iconst (v := 0) hx hb d_Rd_isFigure_16 (by decide) ?_
      exact hret _ _ _ d_Rd_isFigure_17 (by first | exact Or.inl rfl | exact Or.inr rfl | assumption) ((bI_f (by omega)).symm)
    · skip
      refine lv_iconst (v := 1) hx hb d_Rd_isFigure_12 (by decide) ?_
      refine lv_goto (tgt := 17) hx hb d_Rd_isFigure_13 (by decide) ?_
      exact hret _ _ _ d_Rd_isFigure_17 (by first | exact Or.inl rfl | exact Or.inr rfl | assumption) ((bI_t (by omega)).symm)
set_option maxHeartbeats 400000 in
set_option maxRecDepth 100000 in
theorem c_Fl_isAtEnd (l : Launch) (v : Int)  (h1 : -100 ≤ v) (h2 : v ≤ 100) : SMi l y_Fl_isAtEnd b_Fl_isAtEnd 1 (some .boolean) 0 0 [.int (iI v)] (fun r => r = bI (v = -7 ∨ v = 7)) := by
  refine st_entz (own := R_Fl) (by decide +kernel) rfl (Nat.le_of_ble_eq_true rfl) ?_
  intro p e s m args below meth c Q hC hret ls hl
  have hx := hC.1
  have hb := hC.2.1
  replace hl : lv_has ls 1 [(0, .int (iI v))] := hl
  refine lv_iload_n hx hb d_Fl_isAtEnd_0 rfl (lv_at hl 0 rfl) ?_
  refine lv_bipush (v := (-7)) hx hb d_Fl_isAtEnd_1 (by decide) ?_
  refine zc_eq hx hb v (-7) (by omega) (by omega) (by omega) (by omega) d_Fl_isAtEnd_3 (tgt := 12) (by decide) (fun h5 => ?_) (fun h5 => ?_)
  · skip
    refine lv_iconst (v := 1) hx hb d_Fl_isAtEnd_12 (by decide) ?_
    refine lv_goto (tgt := 17) hx hb d_Fl_isAtEnd_13 (by decide) ?_
    exact hret _ _ _ d_Fl_isAtEnd_17 (by first | exact Or.inl rfl | exact Or.inr rfl | assumption) ((bI_t (by omega)).symm)
  · skip
    refine lv_iload_n hx hb d_Fl_isAtEnd_6 rfl (lv_at hl 0 rfl) ?_
    refine lv_bipush (v := 7) hx hb d_Fl_isAtEnd_7 (by decide) ?_
    refine zc_ne hx hb v 7 (by omega) (by omega) (by omega) (by omega) d_Fl_isAtEnd_9 (tgt := 16) (by decide) (fun h6 => ?_) (fun h6 => ?_)
    · skip
      refine lv_iconst (v := 0) hx hb d_Fl_isAtEnd_16 (by decide) ?_
      exact hret _ _ _ d_Fl_isAtEnd_17 (by first | exact Or.inl rfl | exact Or.inr rfl | assumption) ((bI_f (by omega)).symm)
    · skip
      refine lv_iconst (v := 1) hx hb d_Fl_isAtEnd_12 (by decide) ?_
      refine lv_goto (tgt := 17) hx hb d_Fl_isAtEnd_13 (by decide) ?_
      exact hret _ _ _ d_Fl_isAtEnd_17 (by first | exact Or.inl rfl | exact Or.inr rfl | assumption) ((bI_t (by omega)).symm)
set_option maxHeartbeats 400000 in
set_option maxRecDepth 100000 in
theorem c_Fl_yOf (l : Launch) (q : Nat)  (h1 : q < 225) : SMi l y_Fl_yOf b_Fl_yOf 1 (some .int) 0 0 [.int (nI q)] (fun r => r = iI ((↑(q % 15) : Int) + (-7))) := by
  refine st_enti (own := R_Fl) (by decide +kernel) rfl (Nat.le_of_ble_eq_true rfl) ?_
  intro p e s m args below meth c Q hC hret ls hl
  have hx := hC.1
  have hb := hC.2.1
  replace hl : lv_has ls 1 [(0, .int (nI q))] := hl
  refine lv_iload_n hx hb d_Fl_yOf_0 rfl (lv_at hl 0 rfl) ?_
  refine lv_bipush (v := 15) hx hb d_Fl_yOf_1 (by decide) ?_
  refine iremN hx hb q 15 (by omega) (by decide) (by decide) d_Fl_yOf_3 ?_
  refine lv_bipush (v := (-7)) hx hb d_Fl_yOf_4 (by decide) ?_
  refine lv_iadd hx hb d_Fl_yOf_6 ?_
  refine topi_eq (y := iI ((↑(q % 15) : Int) + (-7))) ((congrArg (fun z : Int32 => (nI (q % 15)) + z) (show ((-7) : Int32) = iI (-7) by decide)).trans (iI_add (↑(q % 15) : Int) (-7))) ?_
  exact hret _ _ _ d_Fl_yOf_7 (rfl)
set_option maxHeartbeats 400000 in
set_option maxRecDepth 100000 in
theorem c_Fl_zOf (l : Launch) (q : Nat)  (h1 : q < 225) : SMi l y_Fl_zOf b_Fl_zOf 1 (some .int) 0 0 [.int (nI q)] (fun r => r = iI ((↑(q / 15) : Int) + (-7))) := by
  refine st_enti (own := R_Fl) (by decide +kernel) rfl (Nat.le_of_ble_eq_true rfl) ?_
  intro p e s m args below meth c Q hC hret ls hl
  have hx := hC.1
  have hb := hC.2.1
  replace hl : lv_has ls 1 [(0, .int (nI q))] := hl
  refine lv_iload_n hx hb d_Fl_zOf_0 rfl (lv_at hl 0 rfl) ?_
  refine lv_bipush (v := 15) hx hb d_Fl_zOf_1 (by decide) ?_
  refine idivN hx hb q 15 (by omega) (by decide) (by decide) d_Fl_zOf_3 ?_
  refine lv_bipush (v := (-7)) hx hb d_Fl_zOf_4 (by decide) ?_
  refine lv_iadd hx hb d_Fl_zOf_6 ?_
  refine topi_eq (y := iI ((↑(q / 15) : Int) + (-7))) ((congrArg (fun z : Int32 => (nI (q / 15)) + z) (show ((-7) : Int32) = iI (-7) by decide)).trans (iI_add (↑(q / 15) : Int) (-7))) ?_
  exact hret _ _ _ d_Fl_zOf_7 (rfl)
set_option maxHeartbeats 400000 in
set_option maxRecDepth 100000 in
theorem c_Fl_grown (l : Launch) (bits : Int32) (row : Int32)   : SMi l y_Fl_grown b_Fl_grown 4 (some .int) 0 0 [.int bits, .int row] (fun r => r = grN row bits 14) := by
  refine st_enti (own := R_Fl) (by decide +kernel) rfl (Nat.le_of_ble_eq_true rfl) ?_
  intro p e s m args below meth c Q hC hret ls hl
  have hx := hC.1
  have hb := hC.2.1
  replace hl : lv_has ls 4 [(0, .int bits), (1, .int row)] := hl
  refine lv_iload_n hx hb d_Fl_grown_0 rfl (lv_at hl 0 rfl) ?_
  refine lv_istore_n (lv' := [(2, .int bits), (0, .int bits), (1, .int row)]) hx hb d_Fl_grown_1 rfl hl (by decide) rfl (fun ls hl => ?_)
  refine lv_iconst (v := 1) hx hb d_Fl_grown_2 (by decide) ?_
  refine lv_istore_n (lv' := [(3, .int 1), (2, .int bits), (0, .int bits), (1, .int row)]) hx hb d_Fl_grown_3 rfl hl (by decide) rfl (fun ls hl => ?_)
  have hL4 : ∀ (nn : Nat) (k : Nat) (ls : Array Slot), 14 - k < nn → (k ≤ 14) → lv_has ls 4 [(1, .int row), (2, .int (grN row bits k)), (3, .int (nI (k + 1)))] → W p l e (rmOf 0 0) s m args below meth c s.heap [] 0 0 Q (F0 m 4 ls []) := by
    intro nn
    induction nn with
    | zero =>
      intro k ls hmeas4 hk hl
      exact absurd hmeas4 (Nat.not_lt_zero _)
    | succ nn ih4 =>
      intro k ls hmeas4 hk hl
      refine lv_iload_n hx hb d_Fl_grown_4 rfl (lv_at hl 2 rfl) ?_
      refine lv_bipush (v := 15) hx hb d_Fl_grown_5 (by decide) ?_
      refine nc_ge hx hb (k + 1) 15 (by omega) (by omega) d_Fl_grown_7 (tgt := 28) (by decide) (fun h1 => ?_) (fun h1 => ?_)
      · skip
        refine lv_iload_n hx hb d_Fl_grown_28 rfl (lv_at hl 1 rfl) ?_
        exact hret _ _ _ d_Fl_grown_29 (by rw [show k = 14 by omega])
      · skip
        refine lv_iload_n hx hb d_Fl_grown_10 rfl (lv_at hl 1 rfl) ?_
        refine lv_iload_n hx hb d_Fl_grown_11 rfl (lv_at hl 1 rfl) ?_
        refine lv_iconst (v := 1) hx hb d_Fl_grown_12 (by decide) ?_
        refine lv_ishl hx hb d_Fl_grown_13 ?_
        refine lv_iload_n hx hb d_Fl_grown_14 rfl (lv_at hl 1 rfl) ?_
        refine lv_iconst (v := 1) hx hb d_Fl_grown_15 (by decide) ?_
        refine lv_ishr hx hb d_Fl_grown_16 ?_
        refine lv_ior hx hb d_Fl_grown_17 ?_
        refine lv_iload_n hx hb d_Fl_grown_18 rfl (lv_at hl 0 rfl) ?_
        refine lv_iand hx hb d_Fl_grown_19 ?_
        refine lv_ior hx hb d_Fl_grown_20 ?_
        refine lv_istore_n (lv' := [(2, .int ((grN row bits k) ||| ((((grN row bits k) <<< (1 &&& 31)) ||| ((grN row bits k) >>> (1 &&& 31))) &&& row))), (1, .int row), (3, .int (nI (k + 1)))]) hx hb d_Fl_grown_21 rfl hl (by decide) rfl (fun ls hl => ?_)
        refine lv_iinc (v := nI ((k + 1) + 1)) (lv' := [(3, .int (nI ((k + 1) + 1))), (2, .int ((grN row bits k) ||| ((((grN row bits k) <<< (1 &&& 31)) ||| ((grN row bits k) >>> (1 &&& 31))) &&& row))), (1, .int row)]) hx hb d_Fl_grown_22 hl (k := 2) rfl (nI_add (k + 1) 1) (by decide) rfl (fun ls hl => ?_)
        refine lv_goto (tgt := 4) hx hb d_Fl_grown_25 (by decide) ?_
        exact ih4 (k + 1) _ (by omega) (by omega) (lv_sub hl [2, 1, 0] rfl)
  exact hL4 _ 0 _ (Nat.lt_succ_self _) (by omega) (lv_sub hl [3, 1, 0] rfl)
set_option maxHeartbeats 400000 in
set_option maxRecDepth 100000 in
theorem c_Bo_edgesRound (l : Launch) (ra : Int32) (rb : Int32) (rc : Int32) (rd : Int32) (fo : Int32)  (h1 : lo16 ra) (h2 : lo16 rb) (h3 : lo16 rc) (h4 : lo16 rd) : SMi l y_Bo_edgesRound b_Bo_edgesRound 6 (some .int) 1 20 [.int ra, .int rb, .int rc, .int rd, .int fo] (fun r => r = nI (egs fo ra rb rc rd)) := by
  refine st_enti (own := R_Bo) (by decide +kernel) rfl (Nat.le_of_ble_eq_true rfl) ?_
  intro p e s m args below meth c Q hC hret ls hl
  have hx := hC.1
  have hb := hC.2.1
  replace hl : lv_has ls 6 [(0, .int ra), (1, .int rb), (2, .int rc), (3, .int rd), (4, .int fo)] := hl
  refine lv_iload hx hb d_Bo_edgesRound_0 (lv_at hl 4 rfl) ?_
  refine lv_if_eq (tgt := 19) hx hb d_Bo_edgesRound_2 (by decide) (fun h9 => ?_) (fun h9 => ?_)
  · skip
    refine lv_iload_n hx hb d_Bo_edgesRound_19 rfl (lv_at hl 0 rfl) ?_
    refine lv_iload_n hx hb d_Bo_edgesRound_20 rfl (lv_at hl 1 rfl) ?_
    refine lv_ior hx hb d_Bo_edgesRound_21 ?_
    refine lv_iload_n hx hb d_Bo_edgesRound_22 rfl (lv_at hl 2 rfl) ?_
    refine lv_ior hx hb d_Bo_edgesRound_23 ?_
    refine lv_iload_n hx hb d_Bo_edgesRound_24 rfl (lv_at hl 3 rfl) ?_
    refine lv_ior hx hb d_Bo_edgesRound_25 ?_
    refine lv_iload_n hx hb d_Bo_edgesRound_26 rfl (lv_at hl 0 rfl) ?_
    refine lv_iload_n hx hb d_Bo_edgesRound_27 rfl (lv_at hl 1 rfl) ?_
    refine lv_iand hx hb d_Bo_edgesRound_28 ?_
    refine lv_iload_n hx hb d_Bo_edgesRound_29 rfl (lv_at hl 2 rfl) ?_
    refine lv_iand hx hb d_Bo_edgesRound_30 ?_
    refine lv_iload_n hx hb d_Bo_edgesRound_31 rfl (lv_at hl 3 rfl) ?_
    refine lv_iand hx hb d_Bo_edgesRound_32 ?_
    refine lv_iconst (v := (-1)) hx hb d_Bo_edgesRound_33 (by decide) ?_
    refine lv_ixor hx hb d_Bo_edgesRound_34 ?_
    refine lv_iand hx hb d_Bo_edgesRound_35 ?_
    refine lv_istore (lv' := [(5, .int ((((ra ||| rb) ||| rc) ||| rd) &&& ((((ra &&& rb) &&& rc) &&& rd) ^^^ (-1)))), (0, .int ra), (1, .int rb), (2, .int rc), (3, .int rd), (4, .int fo)]) hx hb d_Bo_edgesRound_36 hl (by decide) rfl (fun ls hl => ?_)
    refine lv_iload hx hb d_Bo_edgesRound_38 (lv_at hl 0 rfl) ?_
    refine st_calli (np := 1) hC (c_In_bitCount l ((((ra ||| rb) ||| rc) ||| rd) &&& ((((ra &&& rb) &&& rc) &&& rd) ^^^ (-1))) (lo_eg1 h1 h2 h3 h4)) ⟨wl_Bo_54, wt_In_bitCount, wc_In_bitCount, wn_In⟩ ⟨by decide, by decide, by decide +kernel⟩ ⟨Nat.le_of_ble_eq_true rfl, Nat.le_of_ble_eq_true rfl⟩ hl.1 rfl (rest := []) rfl (Nat.le_of_ble_eq_true rfl) ⟨Nat.zero_le _, Nat.zero_le _⟩ d_Bo_edgesRound_40 (fun rr hrr => ?_)
    subst hrr
    exact hret _ _ _ d_Bo_edgesRound_43 (by unfold egs; rw [if_pos h9]; rfl)
  · skip
    refine lv_iload_n hx hb d_Bo_edgesRound_5 rfl (lv_at hl 0 rfl) ?_
    refine lv_iload_n hx hb d_Bo_edgesRound_6 rfl (lv_at hl 1 rfl) ?_
    refine lv_ixor hx hb d_Bo_edgesRound_7 ?_
    refine lv_iload_n hx hb d_Bo_edgesRound_8 rfl (lv_at hl 1 rfl) ?_
    refine lv_iload_n hx hb d_Bo_edgesRound_9 rfl (lv_at hl 2 rfl) ?_
    refine lv_ixor hx hb d_Bo_edgesRound_10 ?_
    refine lv_iand hx hb d_Bo_edgesRound_11 ?_
    refine lv_iload_n hx hb d_Bo_edgesRound_12 rfl (lv_at hl 2 rfl) ?_
    refine lv_iload_n hx hb d_Bo_edgesRound_13 rfl (lv_at hl 3 rfl) ?_
    refine lv_ixor hx hb d_Bo_edgesRound_14 ?_
    refine lv_iand hx hb d_Bo_edgesRound_15 ?_
    refine lv_goto (tgt := 36) hx hb d_Bo_edgesRound_16 (by decide) ?_
    refine lv_istore (lv' := [(5, .int (((ra ^^^ rb) &&& (rb ^^^ rc)) &&& (rc ^^^ rd))), (0, .int ra), (1, .int rb), (2, .int rc), (3, .int rd), (4, .int fo)]) hx hb d_Bo_edgesRound_36 hl (by decide) rfl (fun ls hl => ?_)
    refine lv_iload hx hb d_Bo_edgesRound_38 (lv_at hl 0 rfl) ?_
    refine st_calli (np := 1) hC (c_In_bitCount l (((ra ^^^ rb) &&& (rb ^^^ rc)) &&& (rc ^^^ rd)) (lo_eg4 h1 h2)) ⟨wl_Bo_54, wt_In_bitCount, wc_In_bitCount, wn_In⟩ ⟨by decide, by decide, by decide +kernel⟩ ⟨Nat.le_of_ble_eq_true rfl, Nat.le_of_ble_eq_true rfl⟩ hl.1 rfl (rest := []) rfl (Nat.le_of_ble_eq_true rfl) ⟨Nat.zero_le _, Nat.zero_le _⟩ d_Bo_edgesRound_40 (fun rr hrr => ?_)
    subst hrr
    exact hret _ _ _ d_Bo_edgesRound_43 (by unfold egs; rw [if_neg h9]; rfl)
set_option maxHeartbeats 400000 in
set_option maxRecDepth 100000 in
theorem c_Bo_xOfPoint (l : Launch) (n : Nat) (num : Nat)  (hn : n < 65536) (hnum : num < cn (fun j => n.testBit j) 16) (hnu : num ≤ 15) : SMi l y_Bo_xOfPoint b_Bo_xOfPoint 4 (some .int) 1 21 [.int (nI n), .int (nI num)] (fun r => ∃ i, i < 16 ∧ n.testBit i = true ∧ cn (fun j => n.testBit j) i = num ∧ r = iI ((↑i : Int) - 8)) := by
  refine st_enti (own := R_Bo) (by decide +kernel) rfl (Nat.le_of_ble_eq_true rfl) ?_
  intro p e s m args below meth c Q hC hret ls hl
  have hx := hC.1
  have hb := hC.2.1
  replace hl : lv_has ls 4 [(0, .int (nI n)), (1, .int (nI num))] := hl
  refine lv_iload_n hx hb d_Bo_xOfPoint_0 rfl (lv_at hl 0 rfl) ?_
  refine lv_istore_n (lv' := [(2, .int (nI n)), (0, .int (nI n)), (1, .int (nI num))]) hx hb d_Bo_xOfPoint_1 rfl hl (by decide) rfl (fun ls hl => ?_)
  refine lv_iconst (v := 0) hx hb d_Bo_xOfPoint_2 (by decide) ?_
  refine lv_istore_n (lv' := [(3, .int 0), (2, .int (nI n)), (0, .int (nI n)), (1, .int (nI num))]) hx hb d_Bo_xOfPoint_3 rfl hl (by decide) rfl (fun ls hl => ?_)
  have hL4 : ∀ (nn : Nat) (k : Nat) (ls : Array Slot), num - k < nn → (k ≤ num) → lv_has ls 4 [(1, .int (nI num)), (2, .int (nI (clN n k))), (3, .int (nI k))] → W p l e (rmOf 1 21) s m args below meth c s.heap [] 0 0 Q (F0 m 4 ls []) := by
    intro nn
    induction nn with
    | zero =>
      intro k ls hmeas4 hk hl
      exact absurd hmeas4 (Nat.not_lt_zero _)
    | succ nn ih4 =>
      intro k ls hmeas4 hk hl
      refine lv_iload_n hx hb d_Bo_xOfPoint_4 rfl (lv_at hl 2 rfl) ?_
      refine lv_iload_n hx hb d_Bo_xOfPoint_5 rfl (lv_at hl 0 rfl) ?_
      refine nc_ge hx hb k num (by omega) (by omega) d_Bo_xOfPoint_6 (tgt := 27) (by decide) (fun h1 => ?_) (fun h1 => ?_)
      · skip
        obtain rfl : k = num := by omega
        have hz9 := clN_tz hn hnum
        have hc9 := clN_lt hn k
        refine lv_iload_n hx hb d_Bo_xOfPoint_27 rfl (lv_at hl 1 rfl) ?_
        refine st_calli (np := 1) hC (c_In_numberOfTrailingZeros l (clN n k) hc9 hz9.1) ⟨wl_Bo_62, wt_In_numberOfTrailingZeros, wc_In_numberOfTrailingZeros, wn_In⟩ ⟨by decide, by decide, by decide +kernel⟩ ⟨Nat.le_of_ble_eq_true rfl, Nat.le_of_ble_eq_true rfl⟩ hl.1 rfl (rest := []) rfl (Nat.le_of_ble_eq_true rfl) ⟨Nat.zero_le _, Nat.zero_le _⟩ d_Bo_xOfPoint_28 (fun rr hrr => ?_)
        subst hrr
        refine lv_bipush (v := 8) hx hb d_Bo_xOfPoint_31 (by decide) ?_
        refine lv_isub hx hb d_Bo_xOfPoint_33 ?_
        refine topi_eq (iI_sub (↑(tzf 16 (clN n k)) : Int) 8) ?_
        exact hret _ _ _ d_Bo_xOfPoint_34 (⟨_, hz9.2.2.2, hz9.2.1, hz9.2.2.1, rfl⟩)
      · skip
        refine lv_iload_n hx hb d_Bo_xOfPoint_9 rfl (lv_at hl 2 rfl) ?_
        refine lv_bipush (v := 15) hx hb d_Bo_xOfPoint_10 (by decide) ?_
        refine nc_ge hx hb k 15 (by omega) (by omega) d_Bo_xOfPoint_12 (tgt := 27) (by decide) (fun h2 => ?_) (fun h2 => ?_)
        · skip
          obtain rfl : k = num := by omega
          have hz9 := clN_tz hn hnum
          have hc9 := clN_lt hn k
          refine lv_iload_n hx hb d_Bo_xOfPoint_27 rfl (lv_at hl 1 rfl) ?_
          refine st_calli (np := 1) hC (c_In_numberOfTrailingZeros l (clN n k) hc9 hz9.1) ⟨wl_Bo_62, wt_In_numberOfTrailingZeros, wc_In_numberOfTrailingZeros, wn_In⟩ ⟨by decide, by decide, by decide +kernel⟩ ⟨Nat.le_of_ble_eq_true rfl, Nat.le_of_ble_eq_true rfl⟩ hl.1 rfl (rest := []) rfl (Nat.le_of_ble_eq_true rfl) ⟨Nat.zero_le _, Nat.zero_le _⟩ d_Bo_xOfPoint_28 (fun rr hrr => ?_)
          subst hrr
          refine lv_bipush (v := 8) hx hb d_Bo_xOfPoint_31 (by decide) ?_
          refine lv_isub hx hb d_Bo_xOfPoint_33 ?_
          refine topi_eq (iI_sub (↑(tzf 16 (clN n k)) : Int) 8) ?_
          exact hret _ _ _ d_Bo_xOfPoint_34 (⟨_, hz9.2.2.2, hz9.2.1, hz9.2.2.1, rfl⟩)
        · skip
          refine lv_iload_n hx hb d_Bo_xOfPoint_15 rfl (lv_at hl 1 rfl) ?_
          refine lv_iload_n hx hb d_Bo_xOfPoint_16 rfl (lv_at hl 1 rfl) ?_
          refine lv_iconst (v := 1) hx hb d_Bo_xOfPoint_17 (by decide) ?_
          refine lv_isub hx hb d_Bo_xOfPoint_18 ?_
          refine topi_eq (iI_sub (↑(clN n k) : Int) 1) ?_
          refine lv_iand hx hb d_Bo_xOfPoint_19 ?_
          refine topi_eq (clN_step hn k (clN_tz hn (by omega)).1) ?_
          refine lv_istore_n (lv' := [(2, .int (nI (clN n (k + 1)))), (1, .int (nI num)), (3, .int (nI k))]) hx hb d_Bo_xOfPoint_20 rfl hl (by decide) rfl (fun ls hl => ?_)
          refine lv_iinc (v := nI (k + 1)) (lv' := [(3, .int (nI (k + 1))), (2, .int (nI (clN n (k + 1)))), (1, .int (nI num))]) hx hb d_Bo_xOfPoint_21 hl (k := 2) rfl (nI_add k 1) (by decide) rfl (fun ls hl => ?_)
          refine lv_goto (tgt := 4) hx hb d_Bo_xOfPoint_24 (by decide) ?_
          exact ih4 (k + 1) _ (by omega) (by omega) (lv_sub hl [2, 1, 0] rfl)
  exact hL4 _ 0 _ (Nat.lt_succ_self _) (by omega) (lv_sub hl [3, 1, 0] rfl)
set_option maxHeartbeats 400000 in
set_option maxRecDepth 100000 in
theorem c_Ba_squareBound (l : Launch) (f : Int) (t : Int) (hi : Int32)  (h1 : -3100 ≤ f) (h2 : f ≤ 3100) (h3 : -3100 ≤ t) (h4 : t ≤ 3100) : SMi l y_Ba_squareBound b_Ba_squareBound 3 (some .int) 1 21 [.int (iI f), .int (iI t), .int hi] (fun r => r = iI (sqB f t hi)) := by
  refine st_enti (own := R_Ba) (by decide +kernel) rfl (Nat.le_of_ble_eq_true rfl) ?_
  intro p e s m args below meth c Q hC hret ls hl
  have hx := hC.1
  have hb := hC.2.1
  replace hl : lv_has ls 3 [(0, .int (iI f)), (1, .int (iI t)), (2, .int hi)] := hl
  have q1 := sq_b h1 h2
  have q2 := sq_b h3 h4
  refine lv_iload_n hx hb d_Ba_squareBound_0 rfl (lv_at hl 2 rfl) ?_
  refine lv_if_eq (tgt := 14) hx hb d_Ba_squareBound_1 (by decide) (fun h9 => ?_) (fun h9 => ?_)
  · skip
    refine lv_iload_n hx hb d_Ba_squareBound_14 rfl (lv_at hl 0 rfl) ?_
    refine zz_gt hx hb f (by omega) (by omega) d_Ba_squareBound_15 (tgt := 26) (by decide) (fun h10 => ?_) (fun h10 => ?_)
    · skip
      refine lv_iload_n hx hb d_Ba_squareBound_26 rfl (lv_at hl 0 rfl) ?_
      refine lv_iload_n hx hb d_Ba_squareBound_27 rfl (lv_at hl 0 rfl) ?_
      refine lv_imul hx hb d_Ba_squareBound_28 ?_
      refine topi_eq (iI_mul f f) ?_
      refine lv_iload_n hx hb d_Ba_squareBound_29 rfl (lv_at hl 1 rfl) ?_
      refine lv_iload_n hx hb d_Ba_squareBound_30 rfl (lv_at hl 1 rfl) ?_
      refine lv_imul hx hb d_Ba_squareBound_31 ?_
      refine topi_eq (iI_mul t t) ?_
      refine st_calli (np := 2) hC (c_Ma_min l (f * f) (t * t) (by omega) (by omega) (by omega) (by omega)) ⟨wl_Ba_32, wt_Ma_min, wc_Ma_min, wn_Ma⟩ ⟨by decide, by decide, by decide +kernel⟩ ⟨Nat.le_of_ble_eq_true rfl, Nat.le_of_ble_eq_true rfl⟩ hl.1 rfl (rest := []) rfl (Nat.le_of_ble_eq_true rfl) ⟨Nat.zero_le _, Nat.zero_le _⟩ d_Ba_squareBound_32 (fun rr hrr => ?_)
      subst hrr
      exact hret _ _ _ d_Ba_squareBound_35 (by unfold sqB; rw [if_pos h9, if_neg (by omega)])
    · skip
      refine lv_iload_n hx hb d_Ba_squareBound_18 rfl (lv_at hl 1 rfl) ?_
      refine zz_lt hx hb t (by omega) (by omega) d_Ba_squareBound_19 (tgt := 26) (by decide) (fun h11 => ?_) (fun h11 => ?_)
      · skip
        refine lv_iload_n hx hb d_Ba_squareBound_26 rfl (lv_at hl 0 rfl) ?_
        refine lv_iload_n hx hb d_Ba_squareBound_27 rfl (lv_at hl 0 rfl) ?_
        refine lv_imul hx hb d_Ba_squareBound_28 ?_
        refine topi_eq (iI_mul f f) ?_
        refine lv_iload_n hx hb d_Ba_squareBound_29 rfl (lv_at hl 1 rfl) ?_
        refine lv_iload_n hx hb d_Ba_squareBound_30 rfl (lv_at hl 1 rfl) ?_
        refine lv_imul hx hb d_Ba_squareBound_31 ?_
        refine topi_eq (iI_mul t t) ?_
        refine st_calli (np := 2) hC (c_Ma_min l (f * f) (t * t) (by omega) (by omega) (by omega) (by omega)) ⟨wl_Ba_32, wt_Ma_min, wc_Ma_min, wn_Ma⟩ ⟨by decide, by decide, by decide +kernel⟩ ⟨Nat.le_of_ble_eq_true rfl, Nat.le_of_ble_eq_true rfl⟩ hl.1 rfl (rest := []) rfl (Nat.le_of_ble_eq_true rfl) ⟨Nat.zero_le _, Nat.zero_le _⟩ d_Ba_squareBound_32 (fun rr hrr => ?_)
        subst hrr
        exact hret _ _ _ d_Ba_squareBound_35 (by unfold sqB; rw [if_pos h9, if_neg (by omega)])
      · skip
        refine lv_iconst (v := 0) hx hb d_Ba_squareBound_22 (by decide) ?_
        refine lv_goto (tgt := 35) hx hb d_Ba_squareBound_23 (by decide) ?_
        exact hret _ _ _ d_Ba_squareBound_35 (by unfold sqB; rw [if_pos h9, if_pos (by omega)]; rfl)
  · skip
    refine lv_iload_n hx hb d_Ba_squareBound_4 rfl (lv_at hl 0 rfl) ?_
    refine lv_iload_n hx hb d_Ba_squareBound_5 rfl (lv_at hl 0 rfl) ?_
    refine lv_imul hx hb d_Ba_squareBound_6 ?_
    refine topi_eq (iI_mul f f) ?_
    refine lv_iload_n hx hb d_Ba_squareBound_7 rfl (lv_at hl 1 rfl) ?_
    refine lv_iload_n hx hb d_Ba_squareBound_8 rfl (lv_at hl 1 rfl) ?_
    refine lv_imul hx hb d_Ba_squareBound_9 ?_
    refine topi_eq (iI_mul t t) ?_
    refine st_calli (np := 2) hC (c_Ma_max l (f * f) (t * t) (by omega) (by omega) (by omega) (by omega)) ⟨wl_Ba_26, wt_Ma_max, wc_Ma_max, wn_Ma⟩ ⟨by decide, by decide, by decide +kernel⟩ ⟨Nat.le_of_ble_eq_true rfl, Nat.le_of_ble_eq_true rfl⟩ hl.1 rfl (rest := []) rfl (Nat.le_of_ble_eq_true rfl) ⟨Nat.zero_le _, Nat.zero_le _⟩ d_Ba_squareBound_10 (fun rr hrr => ?_)
    subst hrr
    exact hret _ _ _ d_Ba_squareBound_13 (by unfold sqB; rw [if_neg h9])
